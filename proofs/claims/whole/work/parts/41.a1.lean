/-! small calls: tape, fault, has, letter, child, found, pruned, octet, status, seed -/
/-- cells of points, of what is kept, of own words -/
def ptc (k : Nat) : Prop := (7 ≤ k ∧ k ≤ 11) ∨ (17 ≤ k ∧ k ≤ 118) ∨ k = 150 ∨ k = 151 ∨ k = 156
theorem Rel_up {c d : Int} {σ σ' : sxS} (h : Rel c σ) (hk : ∀ k, ptc k → σ' k = σ k) (h4 : σ' 149 4 = σ 149 4) (h6 : σ' 149 6 = σ 149 6) (hT : relT (σ' 2 1) (σ' 3) (σ' 149) (σ' 154)) (hR : relR d (σ' 148) (σ' 155)) (hS : relS (σ' 1 11) (σ' 149)) (hF : relF (σ' 4) (σ' 149)) (hQ : relQ (σ' 119) (σ' 122) (σ' 123) (σ' 124) (σ' 125) (σ' 149) (σ' 161)) (hV : relV (σ' 141) (σ' 142) (σ' 143) (σ' 144) (σ' 149) (σ' 166) (σ' 167) (σ' 168)) (hI : relI (σ' 146) (σ' 147) (σ' 149) (σ' 169)) (hG : (σ' 119 1 = σ 119 1 ∧ σ' 119 11 = σ 119 11) ∧ σ' 126 = σ 126) : Rel d σ' := by
  obtain ⟨a1, a2, a3, a4, a5, a6, a7, a8, a9, a10, a11, a12, a13⟩ := h
  have q : ∀ k, ptc k → σ' k = σ k := hk
  unfold ptc at q
  refine ⟨?_, ?_, ?_, ?_, hT, hR, hS, hF, hQ, hV, hI, ?_, ?_⟩
  · rw [q 150 (by omega)]; exact PT_cells (fun k k1 k2 => q k (by omega)) a1
  · rw [q 150 (by omega)]; exact a2
  · rw [q 150 (by omega), q 7 (by omega)]; unfold relM; rw [h6]; exact a3
  · exact relH_cg a4 (q 17 (by omega)) (fun k k1 k2 => q k (by omega)) (q 151 (by omega)) h4 h6
  · rw [hG.1.1, hG.1.2, hG.2]; exact a12
  · rw [q 156 (by omega)]; exact a13
theorem Rel_ref {c w : Int} {σ : sxS} (h : Rel c σ) (w0 : 0 ≤ w) (w1 : w < 6) : Rel (c + 1) (sc (sc σ 148 (up1 (σ 148) w (σ 148 w + 1))) 155 (up1 (σ 155) w (σ 155 w + 1))) := by
  have h' := h
  obtain ⟨hP, hO, hM, hH, hT, hR, hS, hF, hQ, hV, hI, hG, hW⟩ := h'
  refine Rel_up h (fun k hk => ?_) (by simp [sc_at]) (by simp [sc_at]) (by simpa [sc_at] using hT) ?_ (by simpa [sc_at] using hS) (by simpa [sc_at] using hF) (by simpa [sc_at] using hQ) (by simpa [sc_at] using hV) (by simpa [sc_at] using hI) (by simp [sc_at])
  · unfold ptc at hk; rw [sc_at, if_neg (by omega), sc_at, if_neg (by omega)]
  · intro v v0 v1
    have r := hR v v0 v1
    have r2 := hR w w0 w1
    simp only [sc_at, Nat.reduceEqDiff, if_false, if_true, reduceIte]
    by_cases e : v = w
    · subst e; rw [up1_s, up1_s]; omega
    · rw [up1_n e, up1_n e]; omega
section A1
variable {n : Nat} {c : Int} {σ : sxS} {K : Option sxV → sxT → sxS → Prop}
theorem x12 {w : Int} (w0 : 0 ≤ w) (w1 : w < 6) (hr : inI (σ 148 w + 1)) : Rn 12 0 [some (vR 1), some (vI w)] [] (T0 n) σ K ↔ K (some (vI (-1))) (T0 n) (sc σ 148 (up1 (σ 148) w (σ 148 w + 1))) := by
  refine Rn_iff fun K hK => ?_
  simp only [s12_0, s12_1, s12_4, s12_5, s12_7, s12_10, s12_11, s12_14, s12_15, s12_16, s12_17, s12_18, s12_19, s12_20, s12_21, sx_push, tf, List.length_cons, List.length_nil, Option.some.injEq, exists_eq_left', Nat.reduceAdd, Nat.reduceLeDiff, true_and, and_true, true_or, or_true, Int.zero_add, Nat.zero_le, eq_self, ne_eq, not_true_eq_false, not_false_eq_true, false_implies, true_implies, implies_true, b2i_0, b2i_1, b2i_01, up_sc, sc_at, sc_sc, ite_true, ite_false, if_true, if_false, Nat.reduceEqDiff, reduceIte]
  repeat' (first | intro _ | refine And.intro ?_ ?_)
  all_goals first | exact hK | omega
theorem Rel_r {c w : Int} {σ : sxS} (h : Rel c σ) (hc : c < 100000) (w0 : 0 ≤ w) (w1 : w < 6) : inI (σ 148 w + 1) ∧ inI (σ 155 w + 1) := by
  have r := h.2.2.2.2.2.1 w w0 w1
  omega
theorem x13l {v m : Int} (hv : inI v) (h0 : 0 ≤ m) (h1 : m + 4 ≤ 1600) : ∀ (k : Nat) (i : Int), i + k = 4 → 0 ≤ i → K none (T0 n) (sc (sc σ 2 (up1 (σ 2) 1 (m + 4))) 3 (layF (σ 3) m v 4)) → Rn 13 3 [some (vR 2), some (vI v), some (vI (24 - 8 * i))] [] (T0 n) (sc (sc σ 2 (up1 (σ 2) 1 (m + i))) 3 (layF (σ 3) m v i)) K := by
  intro k
  induction k with
  | zero =>
    intro i hi h0 hK
    obtain rfl : i = 4 := by omega
    rw [s13_3]
    simp only [s13_0, s13_2, s13_4, s13_7, s13_8, s13_11, s13_14, s13_17, s13_18, s13_21, s13_22, s13_25, s13_26, s13_27, s13_28, s13_31, s13_32, s13_33, s13_34, s13_35, s13_38, s13_39, s13_40, s13_43, s13_46, s13_49, sx_push, tf, List.length_cons, List.length_nil, Option.some.injEq, exists_eq_left', Nat.reduceAdd, Nat.reduceLeDiff, true_and, and_true, true_or, or_true, Int.zero_add, Nat.zero_le, eq_self, ne_eq, not_true_eq_false, not_false_eq_true, false_implies, true_implies, implies_true, b2i_0, b2i_1, b2i_01, up_sc, sc_at, sc_sc, ite_true, ite_false, if_true, if_false, Nat.reduceEqDiff, reduceIte]
    repeat' (first | intro _ | refine And.intro ?_ ?_)
    all_goals first | exact hK | omega
  | succ k ih =>
    intro i hi i0 hK
    have e1 : (24 : Int) - 8 * i + -8 = 24 - 8 * (i + 1) := by omega
    have e2 : m + i + 1 = m + (i + 1) := by omega
    have e3 : sx_and (v / 2 ^ (24 - 8 * i).toNat) 255 = byF v i := rfl
    have c32 : ∀ (σ : sxS) (g h : Int → Int), sc (sc σ 3 g) 2 h = sc (sc σ 2 h) 3 g := fun σ g h => sc_comm σ g h (by decide)
    rw [s13_3]
    simp only [s13_0, s13_2, s13_4, s13_7, s13_8, s13_11, s13_14, s13_17, s13_18, s13_21, s13_22, s13_25, s13_26, s13_27, s13_28, s13_31, s13_32, s13_33, s13_34, s13_35, s13_38, s13_39, s13_40, s13_43, s13_46, s13_49, sx_push, tf, List.length_cons, List.length_nil, Option.some.injEq, exists_eq_left', Nat.reduceAdd, Nat.reduceLeDiff, true_and, and_true, true_or, or_true, Int.zero_add, Nat.zero_le, eq_self, ne_eq, not_true_eq_false, not_false_eq_true, false_implies, true_implies, implies_true, b2i_0, b2i_1, b2i_01, up_sc, sc_at, sc_sc, ite_true, ite_false, if_true, if_false, Nat.reduceEqDiff, reduceIte, c32, up1_s, up1_up1, e1, e2, e3, layF_s i0]
    have sh := shr_in (v := v) (k := (24 - 8 * i).toNat) hv
    repeat' (first | intro _ | refine And.intro ?_ ?_)
    all_goals first | omega | exact ih _ (by omega) (by omega) hK
theorem x13 {v : Int} (hv : inI v) (h0 : 0 ≤ σ 2 1) (h1 : σ 2 1 + 4 ≤ 1600) : Rn 13 0 [some (vR 2), some (vI v), none] [] (T0 n) σ K ↔ K none (T0 n) (sc (sc σ 2 (up1 (σ 2) 1 (σ 2 1 + 4))) 3 (layF (σ 3) (σ 2 1) v 4)) := by
  refine Rn_iff fun K hK => ?_
  simp only [s13_0, s13_2, s13_4, s13_7, s13_8, s13_11, s13_14, s13_17, s13_18, s13_21, s13_22, s13_25, s13_26, s13_27, s13_28, s13_31, s13_32, s13_33, s13_34, s13_35, s13_38, s13_39, s13_40, s13_43, s13_46, s13_49, sx_push, tf, List.length_cons, List.length_nil, Option.some.injEq, exists_eq_left', Nat.reduceAdd, Nat.reduceLeDiff, true_and, and_true, true_or, or_true, Int.zero_add, Nat.zero_le, eq_self, ne_eq, not_true_eq_false, not_false_eq_true, false_implies, true_implies, implies_true, b2i_0, b2i_1, b2i_01, up_sc, sc_at, sc_sc, ite_true, ite_false, if_true, if_false, Nat.reduceEqDiff, reduceIte]
  have := x13l (n := n) (σ := σ) hv h0 h1 4 0 (by omega) (by omega) hK
  have e : sc (sc σ 2 (up1 (σ 2) 1 (σ 2 1 + 0))) 3 (layF (σ 3) (σ 2 1) v 0) = σ := by
    rw [layF_0, show σ 2 1 + 0 = σ 2 1 by omega]
    have : up1 (σ 2) 1 (σ 2 1) = σ 2 := by funext j; unfold up1; split <;> simp_all
    rw [this, sc_id, sc_id]
  rw [e] at this
  exact this
theorem x11 {a b c' d e : Int} (ha : inI a) (hb : inI b) (hc : inI c') (hd : inI d) (he : inI e) (h0 : 0 ≤ σ 2 1) (h1 : σ 2 1 + 20 ≤ 1600) : Rn 11 0 [some (vR 1), some (vI a), some (vI b), some (vI c'), some (vI d), some (vI e)] [] (T0 n) σ K ↔ K (some (vI (σ 2 1 + 20))) (T0 n) (sc (sc σ 2 (up1 (σ 2) 1 (σ 2 1 + 20))) 3 (layF (layF (layF (layF (layF (σ 3) (σ 2 1) a 4) (σ 2 1 + 4) b 4) (σ 2 1 + 8) c' 4) (σ 2 1 + 12) d 4) (σ 2 1 + 16) e 4)) := by
  refine Rn_iff fun K hK => ?_
  have c32 : ∀ (σ : sxS) (g h : Int → Int), sc (sc σ 3 g) 2 h = sc (sc σ 2 h) 3 g := fun σ g h => sc_comm σ g h (by decide)
  simp only [s11_0, s11_1, s11_4, s11_7, s11_9, s11_10, s11_13, s11_16, s11_17, s11_18, s11_21, s11_22, s11_23, s11_26, s11_27, sx_push, tf, List.length_cons, List.length_nil, Option.some.injEq, exists_eq_left', Nat.reduceAdd, Nat.reduceLeDiff, true_and, and_true, true_or, or_true, Int.zero_add, Nat.zero_le, eq_self, ne_eq, not_true_eq_false, not_false_eq_true, false_implies, true_implies, implies_true, b2i_0, b2i_1, b2i_01, up_sc, sc_at, sc_sc, ite_true, ite_false, if_true, if_false, Nat.reduceEqDiff, reduceIte]
  repeat' (first | intro _ | refine And.intro ?_ ?_)
  all_goals first | omega | skip
  rw [x13 ha h0 (by omega)]
  simp only [s11_30, s11_31, s11_34, s11_35, sx_push, tf, List.length_cons, List.length_nil, Option.some.injEq, exists_eq_left', Nat.reduceAdd, Nat.reduceLeDiff, true_and, and_true, true_or, or_true, Int.zero_add, Nat.zero_le, eq_self, ne_eq, not_true_eq_false, not_false_eq_true, false_implies, true_implies, implies_true, b2i_0, b2i_1, b2i_01, up_sc, sc_at, sc_sc, ite_true, ite_false, if_true, if_false, Nat.reduceEqDiff, reduceIte]
  rw [x13 hb (by simp [sc_at, up1]; omega) (by simp [sc_at, up1]; omega)]
  simp only [s11_38, s11_39, s11_42, s11_43, sx_push, tf, List.length_cons, List.length_nil, Option.some.injEq, exists_eq_left', Nat.reduceAdd, Nat.reduceLeDiff, true_and, and_true, true_or, or_true, Int.zero_add, Nat.zero_le, eq_self, ne_eq, not_true_eq_false, not_false_eq_true, false_implies, true_implies, implies_true, b2i_0, b2i_1, b2i_01, up_sc, sc_at, sc_sc, ite_true, ite_false, if_true, if_false, Nat.reduceEqDiff, reduceIte, up1_s, up1_up1, c32, Int.add_assoc, Int.reduceAdd]
  rw [x13 hc (by simp [sc_at, up1]; omega) (by simp [sc_at, up1]; omega)]
  simp only [s11_46, s11_47, s11_50, s11_52, sx_push, tf, List.length_cons, List.length_nil, Option.some.injEq, exists_eq_left', Nat.reduceAdd, Nat.reduceLeDiff, true_and, and_true, true_or, or_true, Int.zero_add, Nat.zero_le, eq_self, ne_eq, not_true_eq_false, not_false_eq_true, false_implies, true_implies, implies_true, b2i_0, b2i_1, b2i_01, up_sc, sc_at, sc_sc, ite_true, ite_false, if_true, if_false, Nat.reduceEqDiff, reduceIte, up1_s, up1_up1, c32, Int.add_assoc, Int.reduceAdd]
  rw [x13 hd (by simp [sc_at, up1]; omega) (by simp [sc_at, up1]; omega)]
  simp only [s11_55, s11_56, s11_59, s11_61, sx_push, tf, List.length_cons, List.length_nil, Option.some.injEq, exists_eq_left', Nat.reduceAdd, Nat.reduceLeDiff, true_and, and_true, true_or, or_true, Int.zero_add, Nat.zero_le, eq_self, ne_eq, not_true_eq_false, not_false_eq_true, false_implies, true_implies, implies_true, b2i_0, b2i_1, b2i_01, up_sc, sc_at, sc_sc, ite_true, ite_false, if_true, if_false, Nat.reduceEqDiff, reduceIte, up1_s, up1_up1, c32, Int.add_assoc, Int.reduceAdd]
  rw [x13 he (by simp [sc_at, up1]; omega) (by simp [sc_at, up1]; omega)]
  simp only [s11_64, s11_65, s11_68, s11_71, sx_push, tf, List.length_cons, List.length_nil, Option.some.injEq, exists_eq_left', Nat.reduceAdd, Nat.reduceLeDiff, true_and, and_true, true_or, or_true, Int.zero_add, Nat.zero_le, eq_self, ne_eq, not_true_eq_false, not_false_eq_true, false_implies, true_implies, implies_true, b2i_0, b2i_1, b2i_01, up_sc, sc_at, sc_sc, ite_true, ite_false, if_true, if_false, Nat.reduceEqDiff, reduceIte, up1_s, up1_up1, c32, Int.add_assoc, Int.reduceAdd]
  exact hK
theorem layF_at {t : Int → Int} {m v i j : Int} : layF t m v i j = if m ≤ j ∧ j < m + i then byF v (j - m) else t j := rfl
theorem byF_in (v i : Int) : in8 (byF v i) := by
  unfold byF sx_and in8
  have h : (Int32.ofInt (v / 2 ^ (24 - 8 * i).toNat) &&& Int32.ofInt 255).toBitVec.toNat ≤ 255 := by
    rw [Int32.toBitVec_and, BitVec.toNat_and, show (Int32.ofInt 255).toBitVec.toNat = 255 from sx_ofN (a := 255) (by omega)]
    exact Nat.and_le_right
  rw [sx_toN rfl (by omega)]
  omega
theorem cl0 {a b c' d e : Int} (hc : c < 100000) (ha : inI a) (hb : inI b) (hc' : inI c') (hd : inI d) (he : inI e) : call2 n c 11 168 [some (vR 1), some (vI a), some (vI b), some (vI c'), some (vI d), some (vI e)] [some (vR 149), some (vI a), some (vI b), some (vI c'), some (vI d), some (vI e)] := fun σ hr => by
  have h' := hr
  obtain ⟨hP, hO, hM, hH, hT, hR, hS, hF, hQ, hV, hI, hG, hW⟩ := h'
  have rr := Rel_r hr hc (w := 0) (by omega) (by omega)
  obtain ⟨t1, t2, t3⟩ := hT
  by_cases eq : σ 2 1 + 20 ≤ 1600
  · rw [x11 ha hb hc' hd he (by omega) eq]
    refine ⟨rfl, _, rfl, ?_⟩
    rw [x168 ha hb hc' hd he (by simp [sc_at]; omega) (by simp [sc_at]; omega) (by simpa [sc_at] using rr.2)]
    simp only [sc_at, Nat.reduceEqDiff, if_false, if_true, reduceIte]
    rw [if_pos (by omega), if_pos (by omega)]
    refine ⟨by trivial, by first | trivial | rw [t1], ?_, by simp [sc_at]⟩
    refine Rel_up hr (fun k hk => ?_) (by simp [sc_at, up1]) (by simp [sc_at, up1]) ?_ (by simpa [sc_at] using relR_w hR (by omega)) (by simpa [sc_at, up1, relS] using hS) (by simpa [sc_at, up1, relF] using hF) (by simpa [sc_at, up1, relQ] using hQ) (by simpa [sc_at, up1, relV] using hV) (by simpa [sc_at, up1, relI] using hI) (by simp [sc_at])
    · unfold ptc at hk
      simp only [sc_at]
      rw [if_neg (by omega), if_neg (by omega), if_neg (by omega), if_neg (by omega)]
    · simp only [sc_at, Nat.reduceEqDiff, if_false, if_true, reduceIte, relT, up1_s, t1]
      refine ⟨by trivial, by omega, fun j j0 j1 => ?_⟩
      simp only [layF_at]
      repeat' split
      all_goals first | exact ⟨rfl, byF_in _ _⟩ | exact t3 j j0 (by omega)
  · have x11f : ∀ K : Option sxV → sxT → sxS → Prop, K (some (vI (-1))) (T0 n) (sc σ 148 (up1 (σ 148) 0 (σ 148 0 + 1))) → Rn 11 0 [some (vR 1), some (vI a), some (vI b), some (vI c'), some (vI d), some (vI e)] [] (T0 n) σ K := fun K hK => by
      simp only [s11_0, s11_1, s11_4, s11_7, s11_9, s11_10, s11_13, s11_16, s11_17, s11_18, s11_21, sx_push, tf, List.length_cons, List.length_nil, Option.some.injEq, exists_eq_left', Nat.reduceAdd, Nat.reduceLeDiff, true_and, and_true, true_or, or_true, Int.zero_add, Nat.zero_le, eq_self, ne_eq, not_true_eq_false, not_false_eq_true, false_implies, true_implies, implies_true, b2i_0, b2i_1, b2i_01, up_sc, sc_at, sc_sc, ite_true, ite_false, if_true, if_false, Nat.reduceEqDiff, reduceIte, x12 (n := n) (show (0 : Int) ≤ 0 by omega) (show (0 : Int) < 6 by omega) rr.1]
      repeat' (first | intro _ | refine And.intro ?_ ?_)
      all_goals first | exact hK | omega
    refine x11f _ ⟨rfl, _, rfl, ?_⟩
    rw [x168 ha hb hc' hd he (by simp [sc_at]; omega) (by simp [sc_at]; omega) (by simpa [sc_at] using rr.2)]
    simp only [sc_at, Nat.reduceEqDiff, if_false, if_true, reduceIte]
    rw [if_neg (by omega), if_neg (by omega)]
    exact ⟨by trivial, by trivial, Rel_ref hr (by omega) (by omega), by simp [sc_at]⟩
theorem x14t {w : Int} (h : 0 ≤ w ∧ w ≤ σ 2 1) : Rn 14 0 [some (vR 1), some (vI w)] [] (T0 n) σ K ↔ K (some (vI 1)) (T0 n) (sc σ 2 (up1 (σ 2) 1 w)) := by
  refine Rn_iff fun K hK => ?_
  simp only [s14_0, s14_1, s14_4, s14_5, s14_6, s14_9, s14_12, s14_15, s14_16, s14_17, s14_20, s14_21, s14_22, s14_23, s14_24, s14_27, s14_28, s14_31, s14_32, sx_push, tf, List.length_cons, List.length_nil, Option.some.injEq, exists_eq_left', Nat.reduceAdd, Nat.reduceLeDiff, true_and, and_true, true_or, or_true, Int.zero_add, Nat.zero_le, eq_self, ne_eq, not_true_eq_false, not_false_eq_true, false_implies, true_implies, implies_true, b2i_0, b2i_1, b2i_01, up_sc, sc_at, sc_sc, ite_true, ite_false, if_true, if_false, Nat.reduceEqDiff, reduceIte]
  repeat' (first | intro _ | refine And.intro ?_ ?_)
  all_goals first | exact hK | omega
theorem x14f {w : Int} (hr : inI (σ 148 0 + 1)) (h : ¬ (0 ≤ w ∧ w ≤ σ 2 1)) : Rn 14 0 [some (vR 1), some (vI w)] [] (T0 n) σ K ↔ K (some (vI 0)) (T0 n) (sc σ 148 (up1 (σ 148) 0 (σ 148 0 + 1))) := by
  refine Rn_iff fun K hK => ?_
  simp only [s14_0, s14_1, s14_4, s14_5, s14_6, s14_9, s14_12, s14_15, s14_16, s14_17, s14_20, s14_21, s14_22, s14_23, s14_24, s14_27, s14_28, s14_31, s14_32, sx_push, tf, List.length_cons, List.length_nil, Option.some.injEq, exists_eq_left', Nat.reduceAdd, Nat.reduceLeDiff, true_and, and_true, true_or, or_true, Int.zero_add, Nat.zero_le, eq_self, ne_eq, not_true_eq_false, not_false_eq_true, false_implies, true_implies, implies_true, b2i_0, b2i_1, b2i_01, up_sc, sc_at, sc_sc, ite_true, ite_false, if_true, if_false, Nat.reduceEqDiff, reduceIte, x12 (n := n) (show (0 : Int) ≤ 0 by omega) (show (0 : Int) < 6 by omega) hr]
  repeat' (first | intro _ | refine And.intro ?_ ?_)
  all_goals first | exact hK | omega
theorem cl1 {w : Int} (hc : c < 100000) : call2 n c 14 171 [some (vR 1), some (vI w)] [some (vR 149), some (vI w)] := fun σ hr => by
  have h' := hr
  obtain ⟨hP, hO, hM, hH, hT, hR, hS, hF, hQ, hV, hI, hG, hW⟩ := h'
  have rr := Rel_r hr hc (w := 0) (by omega) (by omega)
  obtain ⟨t1, t2, t3⟩ := hT
  by_cases e : 0 ≤ w ∧ w ≤ σ 2 1
  · rw [x14t e]
    refine ⟨rfl, _, rfl, ?_⟩
    rw [x171 (by simpa [sc_at] using rr.2)]
    simp only [sc_at, Nat.reduceEqDiff, if_false, if_true, reduceIte]
    rw [b2i_t (by omega), if_pos (by omega)]
    refine ⟨by trivial, by trivial, ?_, by simp [sc_at]⟩
    refine Rel_up hr (fun k hk => ?_) (by simp [sc_at, up1]) (by simp [sc_at, up1]) ?_ (by simpa [sc_at] using relR_w hR (by omega)) (by simpa [sc_at, up1, relS] using hS) (by simpa [sc_at, up1, relF] using hF) (by simpa [sc_at, up1, relQ] using hQ) (by simpa [sc_at, up1, relV] using hV) (by simpa [sc_at, up1, relI] using hI) (by simp [sc_at])
    · unfold ptc at hk
      simp only [sc_at]
      rw [if_neg (by omega), if_neg (by omega)]
    · simp only [sc_at, Nat.reduceEqDiff, if_false, if_true, reduceIte, relT, up1_s]
      exact ⟨by trivial, by omega, fun j j0 j1 => t3 j j0 (by omega)⟩
  · rw [x14f rr.1 e]
    refine ⟨rfl, _, rfl, ?_⟩
    rw [x171 (by simpa [sc_at] using rr.2)]
    simp only [sc_at, Nat.reduceEqDiff, if_false, if_true, reduceIte]
    rw [b2i_f (by omega), if_neg (by omega)]
    exact ⟨by trivial, by trivial, Rel_ref hr (by omega) (by omega), by simp [sc_at]⟩
theorem cl3 {w : Int} : call2 n c 45 200 [some (vR 1), some (vI w)] [some (vR 149), some (vI w)] := call2_rd _ (fun σ K h => by
  have hF := h.2.2.2.2.2.2.2.1
  refine Rn_iff fun K hK => ?_
  simp only [s45_0, s45_1, s45_28, s45_29, s45_32, s45_35, s45_36, s45_37, s45_40, s45_43, s45_44, s45_45, sx_push, tf, List.length_cons, List.length_nil, Option.some.injEq, exists_eq_left', Nat.reduceAdd, Nat.reduceLeDiff, true_and, and_true, true_or, or_true, Int.zero_add, Nat.zero_le, eq_self, ne_eq, not_true_eq_false, not_false_eq_true, false_implies, true_implies, implies_true, b2i_0, b2i_1, b2i_01, up_sc, sc_at, sc_sc, ite_true, ite_false, if_true, if_false, Nat.reduceEqDiff, reduceIte, sx_sw, hF.1, hF.2]
  repeat' (first | intro _ | refine And.intro ?_ ?_)
  all_goals (first | omega | (exfalso; contradiction) | (subst_vars; exact hK) | (simp_all; done))) (fun σ K h => x200)
theorem cl4 {w : Int} : call2 n c 46 201 [some (vR 1), some (vI w)] [some (vR 149), some (vI w), none, none] := call2_rd _ (fun σ K h => by
  have h' := h
  obtain ⟨hP, hO, hM, hH, hT, hR, hS, hF, hQ, hV, hI, hG, hW⟩ := h'
  refine Rn_iff fun K hK => ?_
  have hq : ∀ p, 0 ≤ p → p < 40 → σ 150 p = 1 → (p = σ 7 5 ↔ σ 150 (160 + p) = 10) := fun p p0 p1 hp => by
    rw [hP.1.2.2.1]; exact root_iff hO.1.2.2.2 hO.1.2.2.1 p0 p1 hp
  have m : σ 7 4 = if σ 149 6 = 0 then -1 else σ 150 480 := by
    rcases hM with ⟨a, b⟩ | ⟨a, b, -⟩
    · rw [if_neg (by omega), b]
    · rw [if_pos a, b]
  unfold hasS at hK
  simp only [s46_0, s46_1, s46_44, s46_45, s46_48, s46_51, s46_52, s46_53, s46_56, s46_59, s46_60, s46_61, s46_64, s46_67, s46_68, s46_69, s46_72, s46_75, s46_76, s46_77, s46_80, s46_83, s46_84, s46_85, s46_88, s46_91, s46_92, s46_93, s46_96, s46_97, s46_98, s46_99, sx_push, tf, List.length_cons, List.length_nil, Option.some.injEq, exists_eq_left', Nat.reduceAdd, Nat.reduceLeDiff, true_and, and_true, true_or, or_true, Int.zero_add, Nat.zero_le, eq_self, ne_eq, not_true_eq_false, not_false_eq_true, false_implies, true_implies, implies_true, b2i_0, b2i_1, b2i_01, up_sc, sc_at, sc_sc, ite_true, ite_false, if_true, if_false, Nat.reduceEqDiff, reduceIte, sx_sw, x47 isP7 hP.1.1 hq, hP.1.2.2.1, hP.1.2.2.2, m, hV.1, hH.1, hS.1]
  have s1 := hS.2
  generalize cntF (σ 150) 40 0 0 = r0 at *
  generalize rootF (σ 150) 40 0 = r2 at *
  generalize mxF (σ 150) 40 0 (-1) = r3 at *
  generalize (if σ 149 6 = 0 then -1 else σ 150 480) = r1 at *
  repeat' (first | intro _ | refine And.intro ?_ ?_)
  all_goals (first | omega | (exfalso; contradiction) | (subst_vars; exact hK) | (simp_all; done))) (fun σ K h => x201 (Rel_inv h).1)
theorem sx_and31 {a : Int} (h0 : 0 ≤ a) (h1 : a < 2147483648) : sx_and a 31 = a % 32 := by
  obtain ⟨x, rfl⟩ := Int.eq_ofNat_of_zero_le h0
  rw [show (31 : Int) = ((31 : Nat) : Int) from rfl, sx_andN (by omega) (by omega), show (31 : Nat) = 2 ^ 5 - 1 from rfl, Nat.and_two_pow_sub_one_eq_mod]
  omega
theorem nm_letter {f : Int → Int} (hl : ltr f) {p k : Int} (p0 : 0 ≤ p) (p1 : p < 40) (k0 : 0 ≤ k) (k1 : k ≤ 5) : (0 ≤ nmF f p ∧ nmF f p < 2147483648) ∧ (0 ≤ nmF f p / 2 ^ (5 * k).toNat ∧ nmF f p / 2 ^ (5 * k).toNat ≤ nmF f p) ∧ sx_and (nmF f p / 2 ^ (5 * k).toNat) 31 = f (240 + 6 * p + k) := by
  have l0 := hl p 0 p0 p1 (by omega) (by omega)
  have l1 := hl p 1 p0 p1 (by omega) (by omega)
  have l2 := hl p 2 p0 p1 (by omega) (by omega)
  have l3 := hl p 3 p0 p1 (by omega) (by omega)
  have l4 := hl p 4 p0 p1 (by omega) (by omega)
  have l5 := hl p 5 p0 p1 (by omega) (by omega)
  rw [Int.add_zero] at l0
  unfold nmF
  rcases (show k = 0 ∨ k = 1 ∨ k = 2 ∨ k = 3 ∨ k = 4 ∨ k = 5 by omega) with e | e | e | e | e | e <;> subst e
  · rw [show (2 : Int) ^ (5 * 0 : Int).toNat = 1 by decide, Int.add_zero]
    rw [sx_and31 (by omega) (by omega)]
    omega
  · rw [show (2 : Int) ^ (5 * 1 : Int).toNat = 32 by decide]
    rw [sx_and31 (by omega) (by omega)]
    omega
  · rw [show (2 : Int) ^ (5 * 2 : Int).toNat = 1024 by decide]
    rw [sx_and31 (by omega) (by omega)]
    omega
  · rw [show (2 : Int) ^ (5 * 3 : Int).toNat = 32768 by decide]
    rw [sx_and31 (by omega) (by omega)]
    omega
  · rw [show (2 : Int) ^ (5 * 4 : Int).toNat = 1048576 by decide]
    rw [sx_and31 (by omega) (by omega)]
    omega
  · rw [show (2 : Int) ^ (5 * 5 : Int).toNat = 33554432 by decide]
    rw [sx_and31 (by omega) (by omega)]
    omega
theorem cl5 {p k : Int} : call2 n c 48 204 [some (vR 1), some (vI p), some (vI k)] [some (vR 149), some (vI p), some (vI k)] := call2_rd _ (fun σ K h => by
  have h' := h
  obtain ⟨hP, hO, hM, hH, hT, hR, hS, hF, hQ, hV, hI, hG, hW⟩ := h'
  refine Rn_iff fun K hK => ?_
  by_cases e : ((0 ≤ p ∧ p < 40) ∧ σ 150 p = 1) ∧ (0 ≤ k ∧ k ≤ 5)
  · rw [if_pos e] at hK
    have nl := nm_letter hO.2.2.1 e.1.1.1 e.1.1.2 e.2.1 e.2.2
    have e11 : σ 11 p = nmF (σ 150) p := (hP.2.2 p e.1.1.1 e.1.1.2).1 e.1.2
    simp only [s48_0, s48_1, s48_4, s48_5, s48_8, s48_11, s48_12, s48_15, s48_16, s48_18, s48_21, s48_22, s48_23, s48_24, s48_27, s48_30, s48_31, s48_32, s48_33, s48_34, s48_35, s48_36, s48_38, s48_39, sx_push, tf, List.length_cons, List.length_nil, Option.some.injEq, exists_eq_left', Nat.reduceAdd, Nat.reduceLeDiff, true_and, and_true, true_or, or_true, Int.zero_add, Nat.zero_le, eq_self, ne_eq, not_true_eq_false, not_false_eq_true, false_implies, true_implies, implies_true, b2i_0, b2i_1, b2i_01, up_sc, sc_at, sc_sc, ite_true, ite_false, if_true, if_false, Nat.reduceEqDiff, reduceIte, x49 isP7 hP.1.1, e11, nl.2.2]
    repeat' (first | intro _ | refine And.intro ?_ ?_)
    all_goals first | exact hK | omega
  · rw [if_neg e] at hK
    simp only [s48_0, s48_1, s48_4, s48_5, s48_8, s48_11, s48_12, s48_15, s48_16, s48_18, s48_21, s48_22, sx_push, tf, List.length_cons, List.length_nil, Option.some.injEq, exists_eq_left', Nat.reduceAdd, Nat.reduceLeDiff, true_and, and_true, true_or, or_true, Int.zero_add, Nat.zero_le, eq_self, ne_eq, not_true_eq_false, not_false_eq_true, false_implies, true_implies, implies_true, b2i_0, b2i_1, b2i_01, up_sc, sc_at, sc_sc, ite_true, ite_false, if_true, if_false, Nat.reduceEqDiff, reduceIte, x49 isP7 hP.1.1]
    repeat' (first | intro _ | refine And.intro ?_ ?_)
    all_goals first | exact hK | omega) (fun σ K h => x204)
theorem fnd_none {c : Int → Bool} : ∀ (k : Nat) (p : Int), (∀ q, p ≤ q → q < p + k → c q = false) → fnd c k p = -1 := by
  intro k
  induction k with
  | zero => intro p _; rfl
  | succ k ih =>
    intro p h
    unfold fnd
    rw [h p (by omega) (by omega)]
    exact ih _ (fun q a b => h q (by omega) (by omega))
theorem x85l (h0 : 0 ≤ σ 119 8) (h1 : σ 119 8 ≤ 40) (hb : ∀ k, 0 ≤ k → k < σ 119 8 → 0 ≤ σ 125 k ∧ σ 125 k ≤ 40) : ∀ (k : Nat) (p a : Int), p + k = σ 119 8 → 0 ≤ p → 0 ≤ a → a ≤ 40 * p → K (some (vI (sumF (σ 125) k p a))) (T0 n) σ → Rn 85 4 [some (vR 119), some (vI a), some (vI p)] [] (T0 n) σ K := by
  intro k
  induction k with
  | zero =>
    intro p a hp p0 a0 a1 hK
    rw [s85_4]
    simp only [s85_0, s85_1, s85_2, s85_3, s85_5, s85_6, s85_9, s85_12, s85_13, s85_14, s85_17, s85_18, s85_19, s85_20, s85_21, s85_24, s85_27, s85_28, sx_push, tf, List.length_cons, List.length_nil, Option.some.injEq, exists_eq_left', Nat.reduceAdd, Nat.reduceLeDiff, true_and, and_true, true_or, or_true, Int.zero_add, Nat.zero_le, eq_self, ne_eq, not_true_eq_false, not_false_eq_true, false_implies, true_implies, implies_true, b2i_0, b2i_1, b2i_01, up_sc, sc_at, sc_sc, ite_true, ite_false, if_true, if_false, Nat.reduceEqDiff, reduceIte]
    repeat' (first | intro _ | refine And.intro ?_ ?_)
    all_goals first | exact hK | omega
  | succ k ih =>
    intro p a hp p0 a0 a1 hK
    unfold sumF at hK
    have hb := hb p p0 (by omega)
    rw [s85_4]
    simp only [s85_0, s85_1, s85_2, s85_3, s85_5, s85_6, s85_9, s85_12, s85_13, s85_14, s85_17, s85_18, s85_19, s85_20, s85_21, s85_24, s85_27, s85_28, sx_push, tf, List.length_cons, List.length_nil, Option.some.injEq, exists_eq_left', Nat.reduceAdd, Nat.reduceLeDiff, true_and, and_true, true_or, or_true, Int.zero_add, Nat.zero_le, eq_self, ne_eq, not_true_eq_false, not_false_eq_true, false_implies, true_implies, implies_true, b2i_0, b2i_1, b2i_01, up_sc, sc_at, sc_sc, ite_true, ite_false, if_true, if_false, Nat.reduceEqDiff, reduceIte]
    repeat' (first | intro _ | refine And.intro ?_ ?_)
    all_goals first | omega | exact ih _ _ (by omega) (by omega) (by omega) (by omega) hK
theorem x85 (h0 : 0 ≤ σ 119 8) (h1 : σ 119 8 ≤ 40) (hb : ∀ k, 0 ≤ k → k < σ 119 8 → 0 ≤ σ 125 k ∧ σ 125 k ≤ 40) : Rn 85 0 [some (vR 119), none, none] [] (T0 n) σ K ↔ K (some (vI (sumF (σ 125) (σ 119 8).toNat 0 0))) (T0 n) σ := by
  refine Rn_iff fun K hK => ?_
  simp only [s85_0, s85_1, s85_2, s85_3, s85_5, s85_6, s85_9, s85_12, s85_13, s85_14, s85_17, s85_18, s85_19, s85_20, s85_21, s85_24, s85_27, s85_28, sx_push, tf, List.length_cons, List.length_nil, Option.some.injEq, exists_eq_left', Nat.reduceAdd, Nat.reduceLeDiff, true_and, and_true, true_or, or_true, Int.zero_add, Nat.zero_le, eq_self, ne_eq, not_true_eq_false, not_false_eq_true, false_implies, true_implies, implies_true, b2i_0, b2i_1, b2i_01, up_sc, sc_at, sc_sc, ite_true, ite_false, if_true, if_false, Nat.reduceEqDiff, reduceIte]
  exact x85l h0 h1 hb _ 0 0 (by omega) (by omega) (by omega) (by omega) hK
theorem cl16 {w : Int} : call2 n c 84 232 [some (vR 1), some (vI w)] [some (vR 149), some (vI w)] := call2_rd _ (fun σ K h => by
  have h' := h
  obtain ⟨hP, hO, hM, hH, hT, hR, hS, hF, hQ, hV, hI, hG, hW⟩ := h'
  obtain ⟨q1, q2, q3, q4⟩ := hQ
  refine Rn_iff fun K hK => ?_
  rcases q3 with ⟨a1, a2, a3⟩ | ⟨a1, a2, a3, a4, a5⟩
  · rw [if_pos a1] at hK
    simp only [s84_0, s84_1, s84_4, s84_7, s84_8, s84_11, s84_12, sx_push, tf, List.length_cons, List.length_nil, Option.some.injEq, exists_eq_left', Nat.reduceAdd, Nat.reduceLeDiff, true_and, and_true, true_or, or_true, Int.zero_add, Nat.zero_le, eq_self, ne_eq, not_true_eq_false, not_false_eq_true, false_implies, true_implies, implies_true, b2i_0, b2i_1, b2i_01, up_sc, sc_at, sc_sc, ite_true, ite_false, if_true, if_false, Nat.reduceEqDiff, reduceIte, a2]
    repeat' (first | intro _ | refine And.intro ?_ ?_)
    all_goals first | exact hK | omega
  · rw [if_neg (by omega)] at hK
    have x := fun K => x85 (n := n) (σ := σ) (K := K) (by omega) (by omega) (fun k k0 k1 => (q4 k k0 (by omega)).2.2.2.2)
    rw [q1, a5] at x
    simp only [s84_0, s84_1, s84_4, s84_7, s84_8, s84_11, s84_12, s84_13, s84_14, s84_44, s84_45, s84_48, s84_51, s84_52, s84_53, s84_56, s84_59, s84_60, s84_61, s84_64, s84_67, s84_68, s84_69, s84_72, s84_75, s84_76, s84_77, sx_push, tf, List.length_cons, List.length_nil, Option.some.injEq, exists_eq_left', Nat.reduceAdd, Nat.reduceLeDiff, true_and, and_true, true_or, or_true, Int.zero_add, Nat.zero_le, eq_self, ne_eq, not_true_eq_false, not_false_eq_true, false_implies, true_implies, implies_true, b2i_0, b2i_1, b2i_01, up_sc, sc_at, sc_sc, ite_true, ite_false, if_true, if_false, Nat.reduceEqDiff, reduceIte, sx_sw, a3, a4, q1, x]
    repeat' (first | intro _ | refine And.intro ?_ ?_)
    all_goals (first | omega | (exfalso; contradiction) | (subst_vars; exact hK) | (simp_all; done))) (fun σ K h => x232)
theorem cl17 {k w : Int} : call2 n c 86 233 [some (vR 1), some (vI k), some (vI w)] [some (vR 149), some (vI k), some (vI w)] := call2_rd _ (fun σ K h => by
  have h' := h
  obtain ⟨hP, hO, hM, hH, hT, hR, hS, hF, hQ, hV, hI, hG, hW⟩ := h'
  obtain ⟨q1, q2, q3, q4⟩ := hQ
  refine Rn_iff fun K hK => ?_
  by_cases e : 0 ≤ k ∧ k < σ 149 30
  · obtain ⟨r1, r2, r3, r4, -, -⟩ := q4 k e.1 e.2
    simp only [s86_0, s86_1, s86_4, s86_5, s86_6, s86_9, s86_12, s86_15, s86_16, s86_17, s86_18, s86_48, s86_49, s86_52, s86_55, s86_56, s86_57, s86_58, s86_59, s86_62, s86_65, s86_66, s86_67, s86_68, s86_69, s86_72, s86_75, s86_76, s86_77, s86_78, s86_79, s86_82, s86_85, s86_86, s86_87, s86_88, s86_89, sx_push, tf, List.length_cons, List.length_nil, Option.some.injEq, exists_eq_left', Nat.reduceAdd, Nat.reduceLeDiff, true_and, and_true, true_or, or_true, Int.zero_add, Nat.zero_le, eq_self, ne_eq, not_true_eq_false, not_false_eq_true, false_implies, true_implies, implies_true, b2i_0, b2i_1, b2i_01, up_sc, sc_at, sc_sc, ite_true, ite_false, if_true, if_false, Nat.reduceEqDiff, reduceIte, sx_sw, q1, r1, r2, r3, r4]
    by_cases e2 : 0 ≤ w ∧ w ≤ 3
    · rw [if_pos ⟨by omega, e2⟩] at hK
      rcases (show w = 0 ∨ w = 1 ∨ w = 2 ∨ w = 3 by omega) with z | z | z | z <;> subst z
      · rw [Int.add_zero] at hK
        repeat' (first | intro _ | refine And.intro ?_ ?_)
        all_goals first | omega | exact hK | contradiction
      all_goals
        repeat' (first | intro _ | refine And.intro ?_ ?_)
        all_goals first | omega | exact hK | contradiction
    · rw [if_neg (fun z => e2 z.2)] at hK
      repeat' (first | intro _ | refine And.intro ?_ ?_)
      all_goals first | omega | exact hK
  · rw [if_neg (by omega)] at hK
    simp only [s86_0, s86_1, s86_4, s86_5, s86_6, s86_9, s86_12, s86_15, s86_16, sx_push, tf, List.length_cons, List.length_nil, Option.some.injEq, exists_eq_left', Nat.reduceAdd, Nat.reduceLeDiff, true_and, and_true, true_or, or_true, Int.zero_add, Nat.zero_le, eq_self, ne_eq, not_true_eq_false, not_false_eq_true, false_implies, true_implies, implies_true, b2i_0, b2i_1, b2i_01, up_sc, sc_at, sc_sc, ite_true, ite_false, if_true, if_false, Nat.reduceEqDiff, reduceIte, q1]
    repeat' (first | intro _ | refine And.intro ?_ ?_)
    all_goals first | exact hK | omega) (fun σ K h => x233 h.2.2.2.2.2.2.2.2.1.2.1.1 h.2.2.2.2.2.2.2.2.1.2.1.2)
theorem cl44 {k : Int} : call2 n c 159 282 [some (vR 1), some (vI k)] [some (vR 149), some (vI k)] := call2_rd _ (fun σ K h => by
  have h' := h
  obtain ⟨hP, hO, hM, hH, hT, hR, hS, hF, hQ, hV, hI, hG, hW⟩ := h'
  obtain ⟨q1, q2, q3⟩ := hI
  refine Rn_iff fun K hK => ?_
  by_cases e : 0 ≤ k ∧ k < σ 149 41
  · rw [if_pos (by omega)] at hK
    simp only [s159_0, s159_1, s159_4, s159_5, s159_6, s159_9, s159_12, s159_15, s159_16, s159_19, s159_20, s159_23, s159_26, s159_27, s159_28, sx_push, tf, List.length_cons, List.length_nil, Option.some.injEq, exists_eq_left', Nat.reduceAdd, Nat.reduceLeDiff, true_and, and_true, true_or, or_true, Int.zero_add, Nat.zero_le, eq_self, ne_eq, not_true_eq_false, not_false_eq_true, false_implies, true_implies, implies_true, b2i_0, b2i_1, b2i_01, up_sc, sc_at, sc_sc, ite_true, ite_false, if_true, if_false, Nat.reduceEqDiff, reduceIte, q1, q3 k e.1 e.2]
    repeat' (first | intro _ | refine And.intro ?_ ?_)
    all_goals first | exact hK | omega
  · rw [if_neg (by omega)] at hK
    simp only [s159_0, s159_1, s159_4, s159_5, s159_6, s159_9, s159_12, s159_15, s159_16, s159_19, s159_20, s159_23, s159_26, s159_27, s159_28, sx_push, tf, List.length_cons, List.length_nil, Option.some.injEq, exists_eq_left', Nat.reduceAdd, Nat.reduceLeDiff, true_and, and_true, true_or, or_true, Int.zero_add, Nat.zero_le, eq_self, ne_eq, not_true_eq_false, not_false_eq_true, false_implies, true_implies, implies_true, b2i_0, b2i_1, b2i_01, up_sc, sc_at, sc_sc, ite_true, ite_false, if_true, if_false, Nat.reduceEqDiff, reduceIte, q1]
    repeat' (first | intro _ | refine And.intro ?_ ?_)
    all_goals first | exact hK | omega) (fun σ K h => x282 h.2.2.2.2.2.2.2.2.2.2.1.2.1.1 h.2.2.2.2.2.2.2.2.2.2.1.2.1.2)
theorem cl46 {w : Int} : call2 n c 166 286 [some (vR 1), some (vI w)] [some (vR 149), some (vI w)] := call2_rd _ (fun σ K h => by
  have hR := h.2.2.2.2.2.1
  refine Rn_iff fun K hK => ?_
  by_cases e : 0 ≤ w ∧ w ≤ 5
  · rw [if_pos e] at hK
    simp only [s166_0, s166_1, s166_4, s166_5, s166_7, s166_10, s166_11, s166_14, s166_15, s166_18, s166_19, s166_20, sx_push, tf, List.length_cons, List.length_nil, Option.some.injEq, exists_eq_left', Nat.reduceAdd, Nat.reduceLeDiff, true_and, and_true, true_or, or_true, Int.zero_add, Nat.zero_le, eq_self, ne_eq, not_true_eq_false, not_false_eq_true, false_implies, true_implies, implies_true, b2i_0, b2i_1, b2i_01, up_sc, sc_at, sc_sc, ite_true, ite_false, if_true, if_false, Nat.reduceEqDiff, reduceIte, (hR w e.1 (by omega)).1]
    repeat' (first | intro _ | refine And.intro ?_ ?_)
    all_goals first | exact hK | omega
  · rw [if_neg e] at hK
    simp only [s166_0, s166_1, s166_4, s166_5, s166_7, s166_10, s166_11, s166_14, s166_15, s166_18, s166_19, s166_20, sx_push, tf, List.length_cons, List.length_nil, Option.some.injEq, exists_eq_left', Nat.reduceAdd, Nat.reduceLeDiff, true_and, and_true, true_or, or_true, Int.zero_add, Nat.zero_le, eq_self, ne_eq, not_true_eq_false, not_false_eq_true, false_implies, true_implies, implies_true, b2i_0, b2i_1, b2i_01, up_sc, sc_at, sc_sc, ite_true, ite_false, if_true, if_false, Nat.reduceEqDiff, reduceIte]
    repeat' (first | intro _ | refine And.intro ?_ ?_)
    all_goals first | exact hK | omega) (fun σ K h => x286)
theorem x154t {w : Int} (h : 0 ≤ w) (hi : inI w) : Rn 154 0 [some (vR 1), some (vI w)] [] (T0 n) σ K ↔ K (some (vI 1)) (T0 n) (sc σ 1 (up1 (σ 1) 11 w)) := by
  refine Rn_iff fun K hK => ?_
  simp only [s154_0, s154_1, s154_4, s154_5, s154_6, s154_9, s154_10, s154_11, s154_12, s154_13, s154_14, s154_15, s154_18, s154_19, sx_push, tf, List.length_cons, List.length_nil, Option.some.injEq, exists_eq_left', Nat.reduceAdd, Nat.reduceLeDiff, true_and, and_true, true_or, or_true, Int.zero_add, Nat.zero_le, eq_self, ne_eq, not_true_eq_false, not_false_eq_true, false_implies, true_implies, implies_true, b2i_0, b2i_1, b2i_01, up_sc, sc_at, sc_sc, ite_true, ite_false, if_true, if_false, Nat.reduceEqDiff, reduceIte]
  repeat' (first | intro _ | refine And.intro ?_ ?_)
  all_goals first | exact hK | omega
theorem x154f {w : Int} (hr : inI (σ 148 5 + 1)) (h : ¬ 0 ≤ w) : Rn 154 0 [some (vR 1), some (vI w)] [] (T0 n) σ K ↔ K (some (vI 0)) (T0 n) (sc σ 148 (up1 (σ 148) 5 (σ 148 5 + 1))) := by
  refine Rn_iff fun K hK => ?_
  simp only [s154_0, s154_1, s154_4, s154_5, s154_6, s154_9, s154_10, s154_11, s154_12, s154_13, s154_14, s154_15, s154_18, s154_19, sx_push, tf, List.length_cons, List.length_nil, Option.some.injEq, exists_eq_left', Nat.reduceAdd, Nat.reduceLeDiff, true_and, and_true, true_or, or_true, Int.zero_add, Nat.zero_le, eq_self, ne_eq, not_true_eq_false, not_false_eq_true, false_implies, true_implies, implies_true, b2i_0, b2i_1, b2i_01, up_sc, sc_at, sc_sc, ite_true, ite_false, if_true, if_false, Nat.reduceEqDiff, reduceIte, x12 (n := n) (show (0 : Int) ≤ 5 by omega) (show (5 : Int) < 6 by omega) hr]
  repeat' (first | intro _ | refine And.intro ?_ ?_)
  all_goals first | exact hK | omega
theorem cl42 {w : Int} (hc : c < 100000) (hi : inI w) : call2 n c 154 279 [some (vR 1), some (vI w)] [some (vR 149), some (vI w)] := fun σ hr => by
  have h' := hr
  obtain ⟨hP, hO, hM, hH, hT, hR, hS, hF, hQ, hV, hI, hG, hW⟩ := h'
  have rr := Rel_r hr hc (w := 5) (by omega) (by omega)
  by_cases e : 0 ≤ w
  · rw [x154t e hi]
    refine ⟨rfl, _, rfl, ?_⟩
    rw [x279 (by simpa [sc_at] using rr.2)]
    simp only [sc_at, Nat.reduceEqDiff, if_false, if_true, reduceIte]
    rw [b2i_t e, if_pos e]
    refine ⟨by trivial, by trivial, ?_, by simp [sc_at]⟩
    refine Rel_up hr (fun k hk => ?_) (by simp [sc_at, up1]) (by simp [sc_at, up1]) (by simpa [sc_at, up1, relT] using hT) (by simpa [sc_at] using relR_w hR (by omega)) (by simp [sc_at, up1, relS]; omega) (by simpa [sc_at, up1, relF] using hF) (by simpa [sc_at, up1, relQ] using hQ) (by simpa [sc_at, up1, relV] using hV) (by simpa [sc_at, up1, relI] using hI) (by simp [sc_at])
    unfold ptc at hk
    simp only [sc_at]
    rw [if_neg (by omega), if_neg (by omega)]
  · rw [x154f rr.1 e]
    refine ⟨rfl, _, rfl, ?_⟩
    rw [x279 (by simpa [sc_at] using rr.2)]
    simp only [sc_at, Nat.reduceEqDiff, if_false, if_true, reduceIte]
    rw [b2i_f e, if_neg e]
    exact ⟨by trivial, by trivial, Rel_ref hr (by omega) (by omega), by simp [sc_at]⟩
end A1
