/-! a text: all of it: the reference -/
theorem plB_k {t : Int → Int} {L c a k p : Int} {F : Int → Int} (h : plB t L c F a k p) : k ≠ 0 := by
  rcases h with B | ⟨_, _, _, B | ⟨_, _, _, B | ⟨_, _, _, _, rfl, _⟩⟩⟩
  · exact numB_k B
  · exact numB_k B
  · exact numB_k B
  · decide
theorem wP_sk {t : Int → Int} {L a : Int} (hL : L ≤ 1600) (a0 : 0 ≤ a) (a1 : a ≤ L) (h : wP t L a) : wP t L (skF t L 1600 a) := by
  obtain ⟨k1, k2, k3⟩ := skF_in (t := t) (L := L) 1600 a a0 a1 (by omega)
  by_cases z : skF t L 1600 a = a
  · rw [z]; exact h
  · have b := k3 z
    refine Or.inr ?_
    unfold blk at b
    unfold sml dgt
    omega
section SE
variable {n : Nat} {σ : sxS} {K : Option sxV → sxT → sxS → Prop} {t : Int → Int} {L : Int}
/-- nothing more, once something is wrong -/
theorem x187v (h0 : σ 149 15 ≠ 0) (hK : K none (T0 n) σ) : Rn 187 36 [some (vR 149), none, none, none, none] [] (T0 n) σ K := by
  have nx := x187u (n := n) (K := K) (i := 0) (b := 0) (u := none) (x := none) h0 (by omega) (by omega) hK
  simp only [s187_36, s187_37, s187_38, s187_39, Int.reduceToNat, Int.reducePow, Nat.reducePow, Int.reduceLE, Int.reduceLT, Int.reduceNeg, Int.reduceEq, Int.reduceNe, Int.reduceAdd, Int.reduceSub, Int.reduceMul, and_self, sx_push, tf, List.length_cons, List.length_nil, Option.some.injEq, exists_eq_left', Nat.reduceAdd, Nat.reduceLeDiff, true_and, and_true, true_or, or_true, Int.zero_add, Nat.zero_le, eq_self, ne_eq, not_true_eq_false, not_false_eq_true, false_implies, true_implies, implies_true, b2i_0, b2i_1, b2i_01, up_sc, sc_at, sc_sc, ite_true, ite_false, if_true, if_false, Nat.reduceEqDiff, reduceIte]
  repeat' (first | intro _ | refine And.intro ?_ ?_)
  all_goals first | omega | exact nx
theorem x187c (h : rOk σ t L) {a c k p : Int} {F : Int → Int} (ha : σ 149 13 = a) (a0 : 0 ≤ a) (a1 : a ≤ L) (h0 : σ 149 15 = 0) (hw : wP t L a) (hS : rSt σ c F) (c1 : c < 40) (hB : nmB t L c F a k p) (hK : ∀ σ', rfS σ σ' → σ' 149 15 = k → σ' 149 16 = p → K none (T0 n) σ') : Rn 187 0 [some (vR 149), none, none, none, none] [] (T0 n) σ K := by
  have h18 := hS.1
  have k0 := nmB_k hB
  have go : Rn 188 0 [some (vR 149), none, none, none] [] (T0 n) σ (fun r T' σ' => Rn 187 30 [some (vR 149), none, none, none, none] (sx_push r []) T' σ' K) := by
    refine x188b h ha a0 a1 h0 hw hS c1 hB (fun σ1 f1 f2 f3 => ?_)
    have z : σ1 149 15 ≠ 0 := by rw [f2]; exact k0
    have nx := x187v (n := n) (K := K) z (hK σ1 (rfS_0 f1) f2 f3)
    simp only [s187_30, s187_31, s187_33, Int.reduceToNat, Int.reducePow, Nat.reducePow, Int.reduceLE, Int.reduceLT, Int.reduceNeg, Int.reduceEq, Int.reduceNe, Int.reduceAdd, Int.reduceSub, Int.reduceMul, and_self, sx_push, tf, List.length_cons, List.length_nil, Option.some.injEq, exists_eq_left', Nat.reduceAdd, Nat.reduceLeDiff, true_and, and_true, true_or, or_true, Int.zero_add, Nat.zero_le, eq_self, ne_eq, not_true_eq_false, not_false_eq_true, false_implies, true_implies, implies_true, b2i_0, b2i_1, b2i_01, up_sc, sc_at, sc_sc, ite_true, ite_false, if_true, if_false, Nat.reduceEqDiff, reduceIte, x176n z]
    repeat' (first | intro _ | refine And.intro ?_ ?_)
    all_goals first | omega | exact nx
  simp only [s187_0, s187_1, s187_4, s187_6, s187_18, s187_19, s187_22, s187_25, s187_26, s187_27, Int.reduceToNat, Int.reducePow, Nat.reducePow, Int.reduceLE, Int.reduceLT, Int.reduceNeg, Int.reduceEq, Int.reduceNe, Int.reduceAdd, Int.reduceSub, Int.reduceMul, and_self, sx_push, tf, List.length_cons, List.length_nil, Option.some.injEq, exists_eq_left', Nat.reduceAdd, Nat.reduceLeDiff, true_and, and_true, true_or, or_true, Int.zero_add, Nat.zero_le, eq_self, ne_eq, not_true_eq_false, not_false_eq_true, false_implies, true_implies, implies_true, b2i_0, b2i_1, b2i_01, up_sc, sc_at, sc_sc, ite_true, ite_false, if_true, if_false, Nat.reduceEqDiff, reduceIte, h18, x178, h0]
  repeat' (first | intro _ | refine And.intro ?_ ?_)
  all_goals first | omega | exact go
theorem x187e (h : rOk σ t L) {a c e1 : Int} {F F1 : Int → Int} (ha : σ 149 13 = a) (a0 : 0 ≤ a) (a1 : a ≤ L) (h0 : σ 149 15 = 0) (hw : wP t L a) (hS : rSt σ c F) (c1 : c < 40) (g1 : nmG t L c F a F1 e1) (y2 : ¬ spJ t L (sx_str 6) (skF t L 1600 e1) = true) (hK : ∀ σ', rfS σ σ' → σ' 149 15 = 1 → σ' 149 16 = skF t L 1600 e1 → K none (T0 n) σ') : Rn 187 0 [some (vR 149), none, none, none, none] [] (T0 n) σ K := by
  have r2 := h.2.1
  have h18 := hS.1
  have i1 := nmG_in r2.2 a0 a1 g1
  have go : Rn 188 0 [some (vR 149), none, none, none] [] (T0 n) σ (fun r T' σ' => Rn 187 30 [some (vR 149), none, none, none, none] (sx_push r []) T' σ' K) := by
    refine x188g h ha a0 a1 h0 hw hS c1 g1 (fun σ1 f1 f2 f3 f4 f5 => ?_)
    have R1 : rOk σ1 t L := rOk_c h (f2 12 (by decide) (by decide)) (f1 154 (by decide) (by decide)) (f1 156 (by decide) (by decide))
    have q15 : σ1 149 15 = 0 := by rw [f2 15 (by decide) (by decide), h0]
    have go2 : Rn 176 0 [some (vR 149), some (vI 6)] [] (T0 n) σ1 (fun r T' σ' => Rn 187 36 [some (vR 149), none, none, none, none] (sx_push r []) T' σ' K) := by
      refine x176f R1 f3 (by omega) (by omega) q15 (wP_e i1.2) rfl (j := 6) (by decide) rfl (fun z => absurd z y2) (fun _ σ2 g1 g2 g3 => ?_)
      exact x187v (by rw [g2]; decide) (hK σ2 (rfS_tr ⟨fun q a _ b => f1 q a b, fun j a b _ _ _ _ => f2 j a b⟩ (rfS_0 g1)) g2 g3)
    simp only [s187_30, s187_31, s187_33, Int.reduceToNat, Int.reducePow, Nat.reducePow, Int.reduceLE, Int.reduceLT, Int.reduceNeg, Int.reduceEq, Int.reduceNe, Int.reduceAdd, Int.reduceSub, Int.reduceMul, and_self, sx_push, tf, List.length_cons, List.length_nil, Option.some.injEq, exists_eq_left', Nat.reduceAdd, Nat.reduceLeDiff, true_and, and_true, true_or, or_true, Int.zero_add, Nat.zero_le, eq_self, ne_eq, not_true_eq_false, not_false_eq_true, false_implies, true_implies, implies_true, b2i_0, b2i_1, b2i_01, up_sc, sc_at, sc_sc, ite_true, ite_false, if_true, if_false, Nat.reduceEqDiff, reduceIte]
    repeat' (first | intro _ | refine And.intro ?_ ?_)
    all_goals first | omega | exact go2
  simp only [s187_0, s187_1, s187_4, s187_6, s187_18, s187_19, s187_22, s187_25, s187_26, s187_27, Int.reduceToNat, Int.reducePow, Nat.reducePow, Int.reduceLE, Int.reduceLT, Int.reduceNeg, Int.reduceEq, Int.reduceNe, Int.reduceAdd, Int.reduceSub, Int.reduceMul, and_self, sx_push, tf, List.length_cons, List.length_nil, Option.some.injEq, exists_eq_left', Nat.reduceAdd, Nat.reduceLeDiff, true_and, and_true, true_or, or_true, Int.zero_add, Nat.zero_le, eq_self, ne_eq, not_true_eq_false, not_false_eq_true, false_implies, true_implies, implies_true, b2i_0, b2i_1, b2i_01, up_sc, sc_at, sc_sc, ite_true, ite_false, if_true, if_false, Nat.reduceEqDiff, reduceIte, h18, x178, h0]
  repeat' (first | intro _ | refine And.intro ?_ ?_)
  all_goals first | omega | exact go
theorem x187f {s : Int} (h0 : σ 149 15 = 0) (h18 : σ 149 18 = 40) (hs : σ 149 14 = s) (hK : ∀ σ', rfS σ σ' → σ' 149 15 = 5 → σ' 149 16 = s → K none (T0 n) σ') : Rn 187 0 [some (vR 149), none, none, none, none] [] (T0 n) σ K := by
  have w183 := fun K => x183y (n := n) (σ := σ) (K := K) (k := 5) (a := s) h0
  have hK := hK (sc σ 149 (up1 (up1 (σ 149) 15 5) 16 s)) (rfS_0 rf0_56) (by rw [sc_at, if_pos rfl, up1_n (by decide), up1_s]) (by rw [sc_at, if_pos rfl, up1_s])
  have g15 : up1 (up1 (σ 149) 15 5) 16 s 15 = 5 := by rw [up1_n (by decide), up1_s]
  simp only [s187_0, s187_1, s187_4, s187_6, s187_9, s187_10, s187_11, s187_12, s187_15, s187_18, s187_19, s187_22, s187_25, Int.reduceToNat, Int.reducePow, Nat.reducePow, Int.reduceLE, Int.reduceLT, Int.reduceNeg, Int.reduceEq, Int.reduceNe, Int.reduceAdd, Int.reduceSub, Int.reduceMul, and_self, sx_push, tf, List.length_cons, List.length_nil, Option.some.injEq, exists_eq_left', Nat.reduceAdd, Nat.reduceLeDiff, true_and, and_true, true_or, or_true, Int.zero_add, Nat.zero_le, eq_self, ne_eq, not_true_eq_false, not_false_eq_true, false_implies, true_implies, implies_true, b2i_0, b2i_1, b2i_01, up_sc, sc_at, sc_sc, ite_true, ite_false, if_true, if_false, Nat.reduceEqDiff, reduceIte, h18, hs, w183, x178, g15]
  repeat' (first | intro _ | refine And.intro ?_ ?_)
  all_goals first | omega | exact hK
/-- the end, once something is wrong -/
theorem x175w {m : Int} (h0 : σ 149 15 ≠ 0) (hK : K (some (vI m)) (T0 n) σ) : Rn 175 70 [some (vR 149), some (vI m)] [] (T0 n) σ K := by
  rw [s175_70]
  simp only [s175_71, s175_74, s175_111, s175_112, Int.reduceToNat, Int.reducePow, Nat.reducePow, Int.reduceLE, Int.reduceLT, Int.reduceNeg, Int.reduceEq, Int.reduceNe, Int.reduceAdd, Int.reduceSub, Int.reduceMul, and_self, sx_push, tf, List.length_cons, List.length_nil, Option.some.injEq, exists_eq_left', Nat.reduceAdd, Nat.reduceLeDiff, true_and, and_true, true_or, or_true, Int.zero_add, Nat.zero_le, eq_self, ne_eq, not_true_eq_false, not_false_eq_true, false_implies, true_implies, implies_true, b2i_0, b2i_1, b2i_01, up_sc, sc_at, sc_sc, ite_true, ite_false, if_true, if_false, Nat.reduceEqDiff, reduceIte, x178]
  repeat' (first | intro _ | refine And.intro ?_ ?_)
  all_goals first | omega | contradiction | exact hK
theorem x175z (h0 : σ 149 15 ≠ 0) (hK : K (some (vI 1)) (T0 n) σ) : Rn 175 47 [some (vR 149), none] [] (T0 n) σ K := by
  have nx := x175w (n := n) (K := K) h0 hK
  simp only [s175_47, s175_48, s175_51, s175_64, s175_65, s175_68, s175_69, Int.reduceToNat, Int.reducePow, Nat.reducePow, Int.reduceLE, Int.reduceLT, Int.reduceNeg, Int.reduceEq, Int.reduceNe, Int.reduceAdd, Int.reduceSub, Int.reduceMul, and_self, sx_push, tf, List.length_cons, List.length_nil, Option.some.injEq, exists_eq_left', Nat.reduceAdd, Nat.reduceLeDiff, true_and, and_true, true_or, or_true, Int.zero_add, Nat.zero_le, eq_self, ne_eq, not_true_eq_false, not_false_eq_true, false_implies, true_implies, implies_true, b2i_0, b2i_1, b2i_01, up_sc, sc_at, sc_sc, ite_true, ite_false, if_true, if_false, Nat.reduceEqDiff, reduceIte, x178, x186n h0]
  repeat' (first | intro _ | refine And.intro ?_ ?_)
  all_goals first | omega | contradiction | exact nx
theorem x175y (h0 : σ 149 15 ≠ 0) (hK : K (some (vI 1)) (T0 n) σ) : Rn 175 15 [some (vR 149), none] [] (T0 n) σ K := by
  have nx := x175z (n := n) (K := K) h0 hK
  simp only [s175_15, s175_16, s175_19, s175_20, s175_23, Int.reduceToNat, Int.reducePow, Nat.reducePow, Int.reduceLE, Int.reduceLT, Int.reduceNeg, Int.reduceEq, Int.reduceNe, Int.reduceAdd, Int.reduceSub, Int.reduceMul, and_self, sx_push, tf, List.length_cons, List.length_nil, Option.some.injEq, exists_eq_left', Nat.reduceAdd, Nat.reduceLeDiff, true_and, and_true, true_or, or_true, Int.zero_add, Nat.zero_le, eq_self, ne_eq, not_true_eq_false, not_false_eq_true, false_implies, true_implies, implies_true, b2i_0, b2i_1, b2i_01, up_sc, sc_at, sc_sc, ite_true, ite_false, if_true, if_false, Nat.reduceEqDiff, reduceIte, x178, x177n h0]
  repeat' (first | intro _ | refine And.intro ?_ ?_)
  all_goals first | omega | contradiction | exact nx
theorem x175x (h0 : σ 149 15 ≠ 0) (hK : K (some (vI 1)) (T0 n) σ) : Rn 175 10 [some (vR 149), none] [] (T0 n) σ K := by
  have nx := x175y (n := n) (K := K) h0 hK
  simp only [s175_10, s175_11, s175_12, Int.reduceToNat, Int.reducePow, Nat.reducePow, Int.reduceLE, Int.reduceLT, Int.reduceNeg, Int.reduceEq, Int.reduceNe, Int.reduceAdd, Int.reduceSub, Int.reduceMul, and_self, sx_push, tf, List.length_cons, List.length_nil, Option.some.injEq, exists_eq_left', Nat.reduceAdd, Nat.reduceLeDiff, true_and, and_true, true_or, or_true, Int.zero_add, Nat.zero_le, eq_self, ne_eq, not_true_eq_false, not_false_eq_true, false_implies, true_implies, implies_true, b2i_0, b2i_1, b2i_01, up_sc, sc_at, sc_sc, ite_true, ite_false, if_true, if_false, Nat.reduceEqDiff, reduceIte, x176n h0]
  repeat' (first | intro _ | refine And.intro ?_ ?_)
  all_goals first | omega | contradiction | exact nx
theorem rfS_18 {σ : sxS} {v : Int} : rfS σ (sc σ 149 (up1 (σ 149) 18 v)) := ⟨fun q a _ _ => by rw [sc_at, if_neg a], fun j _ _ _ _ a _ => by rw [sc_at, if_pos rfl, up1_n a]⟩
theorem rfS_19 {σ : sxS} {v : Int} : rfS σ (sc σ 149 (up1 (σ 149) 19 v)) := ⟨fun q a _ _ => by rw [sc_at, if_neg a], fun j _ _ _ _ _ a => by rw [sc_at, if_pos rfl, up1_n a]⟩
theorem msE_l {ms : Int} (h : 0 ≤ ms ∧ ms ≤ 2) : ((sx_str (2 + ms.toNat)).length : Int) = msE ms := by
  rcases (show ms = 0 ∨ ms = 1 ∨ ms = 2 by omega) with rfl | rfl | rfl <;> rfl
/-- the head: what it reads, or where it is wrong -/
theorem x175h (h : rOk σ t L) (ha : σ 149 13 = 0) (h0 : σ 149 15 = 0) (hK1 : ∀ σ' ms e, mrG t L ms e → rfS σ σ' → σ' 149 13 = e → (0 ≤ e ∧ e ≤ L) → wP t L e → σ' 149 15 = 0 → σ' 149 16 = σ 149 16 → σ' 149 18 = 0 → σ' 149 19 = ms → Rn 175 70 [some (vR 149), some (vI 1)] [] (T0 n) σ' K) (hK0 : ∀ σ' p, mrB t L p → rfS σ σ' → σ' 149 15 = 1 → σ' 149 16 = p → K (some (vI 1)) (T0 n) σ') : Rn 175 0 [some (vR 149), none] [] (T0 n) σ K := by
  have r2 := h.2.1
  unfold mrG at hK1
  unfold mrB at hK0
  have k0 := (skF_in (t := t) (L := L) 1600 0 (by omega) (by omega) (by omega)).1
  generalize hs0 : skF t L 1600 0 = s0 at *
  have w0 : wP t L 0 := Or.inr ⟨by rw [show bt t L (0 - 1) = -1 from if_neg (by omega)]; unfold sml; omega, by rw [show bt t L (0 - 1) = -1 from if_neg (by omega)]; unfold dgt; omega⟩
  have go : Rn 176 0 [some (vR 149), some (vI 0)] [] (T0 n) (sc σ 149 (up1 (σ 149) 18 0)) (fun r T' σ' => Rn 175 10 [some (vR 149), none] (sx_push r []) T' σ' K) := by
    have fb : rfS σ (sc σ 149 (up1 (σ 149) 18 0)) := rfS_18
    have b13 : sc σ 149 (up1 (σ 149) 18 0) 149 13 = 0 := by rw [sc_at, if_pos rfl, up1_n (by decide), ha]
    have b15 : sc σ 149 (up1 (σ 149) 18 0) 149 15 = 0 := by rw [sc_at, if_pos rfl, up1_n (by decide), h0]
    have b16 : sc σ 149 (up1 (σ 149) 18 0) 149 16 = σ 149 16 := by rw [sc_at, if_pos rfl, up1_n (by decide)]
    have b18 : sc σ 149 (up1 (σ 149) 18 0) 149 18 = 0 := by rw [sc_at, if_pos rfl, up1_s]
    generalize sc σ 149 (up1 (σ 149) 18 0) = σb at *
    have Rb := rfS_ok h fb
    refine x176f Rb b13 (by omega) (by omega) b15 w0 hs0 (j := 0) (by decide) rfl (fun y0 σ1 f1 f2 f3 f4 f5 => ?_) (fun y0 σ1 f1 f2 f3 => ?_)
    rotate_left
    · exact x175x (by rw [f2]; decide) (hK0 σ1 s0 (Or.inl ⟨y0, rfl⟩) (rfS_tr fb (rfS_0 f1)) f2 f3)
    have R1 := rf0_ok Rb f1
    have i0 := spJ_in (j := 0) (by decide) r2.2 (by omega) (by omega) y0
    rw [show ((sx_str 0).length : Int) = 3 from rfl] at i0 f2
    have k1 := (skF_in (t := t) (L := L) 1600 (s0 + 3) (by omega) (by omega) (by omega)).1
    generalize hs1 : skF t L 1600 (s0 + 3) = s1 at *
    have go1 : Rn 176 0 [some (vR 149), some (vI 1)] [] (T0 n) σ1 (fun r T' σ' => Rn 175 15 [some (vR 149), none] (sx_push r []) T' σ' K) := by
      refine x176f R1 f2 (by omega) (by omega) f4 (wP_e i0.2) hs1 (j := 1) (by decide) rfl (fun y1 σ2 g1 g2 g3 g4 g5 => ?_) (fun y1 σ2 g1 g2 g3 => ?_)
      rotate_left
      · exact x175y (by rw [g2]; decide) (hK0 σ2 s1 (Or.inr ⟨y0, Or.inl ⟨y1, rfl⟩⟩) (rfS_tr fb (rfS_0 (rf0_tr f1 g1))) g2 g3)
      have R2 := rf0_ok R1 g1
      have i1 := spJ_in (j := 1) (by decide) r2.2 (by omega) (by omega) y1
      rw [show ((sx_str 1).length : Int) = 2 from rfl] at i1 g2
      have k2 := (skF_in (t := t) (L := L) 1600 (s1 + 2) (by omega) (by omega) (by omega)).1
      generalize hs2 : skF t L 1600 (s1 + 2) = s2 at *
      have fall : ∀ σ3 : sxS, rf0 σ2 σ3 → σ3 149 15 = 1 → σ3 149 16 = s2 → ¬ spJ t L (sx_str 2) s2 = true → ¬ spJ t L (sx_str 3) s2 = true → ¬ spJ t L (sx_str 4) s2 = true → K (some (vI 1)) (T0 n) σ3 := fun σ3 m1 m2 m3 z2 z3 z4 => hK0 σ3 s2 (Or.inr ⟨y0, Or.inr ⟨y1, Or.inl ⟨z2, z3, z4, rfl⟩⟩⟩) (rfS_tr fb (rfS_0 (rf0_tr (rf0_tr f1 g1) m1))) m2 m3
      have go2 : Rn 177 0 [some (vR 149)] [] (T0 n) σ2 (fun r T' σ' => Rn 175 19 [some (vR 149), none] (sx_push r []) T' σ' K) := by
        refine x177f R2 g2 (by omega) (by omega) g4 (wP_e i1.2) hs2 (fun y σ3 m1 m2 m3 m4 m5 => ?_) (fun y σ3 m1 m2 m3 => ?_)
        rotate_left
        · have z : ∀ j : Nat, j < 7 → ¬ spJ t L (sx_str j) s2 = true := fun j hj w => y (spJ_sml hj w)
          have nx := x175z (n := n) (K := K) (by rw [m2]; decide) (fall σ3 m1 m2 m3 (z 2 (by decide)) (z 3 (by decide)) (z 4 (by decide)))
          simp only [s175_19, s175_20, s175_23, Int.reduceToNat, Int.reducePow, Nat.reducePow, Int.reduceLE, Int.reduceLT, Int.reduceNeg, Int.reduceEq, Int.reduceNe, Int.reduceAdd, Int.reduceSub, Int.reduceMul, and_self, sx_push, tf, List.length_cons, List.length_nil, Option.some.injEq, exists_eq_left', Nat.reduceAdd, Nat.reduceLeDiff, true_and, and_true, true_or, or_true, Int.zero_add, Nat.zero_le, eq_self, ne_eq, not_true_eq_false, not_false_eq_true, false_implies, true_implies, implies_true, b2i_0, b2i_1, b2i_01, up_sc, sc_at, sc_sc, ite_true, ite_false, if_true, if_false, Nat.reduceEqDiff, reduceIte, x178, m2]
          repeat' (first | intro _ | refine And.intro ?_ ?_)
          all_goals first | omega | exact nx
        have R3 := rf0_ok R2 m1
        have ow := fun K => x184 (n := n) (K := K) R3 m3 m2 (by omega) (by omega)
        by_cases z : 2 ≤ ownP t L s2 ∧ ownP t L s2 ≤ 4
        · obtain ⟨ms, hm⟩ : ∃ ms : Int, ms = ownP t L s2 - 2 := ⟨_, rfl⟩
          have hms : 0 ≤ ms ∧ ms ≤ 2 := by omega
          have hj7 : 2 + ms.toNat < 7 := by omega
          have sp : spJ t L (sx_str (2 + ms.toNat)) s2 = true := (own_iff hj7).mp (by omega)
          have sl := spJ_len _ 1600 s2 (str_al hj7) (by omega) (by omega) (by omega) sp
          have i2 := spJ_in hj7 r2.2 (by omega) (by omega) sp
          rw [msE_l hms] at sl i2
          have p1 : rfS σ (sc σ3 149 (up1 (σ3 149) 19 ms)) := rfS_tr (rfS_tr fb (rfS_0 (rf0_tr (rf0_tr f1 g1) m1))) rfS_19
          have p13 : sc σ3 149 (up1 (σ3 149) 19 ms) 149 13 = s2 + msE ms := by rw [sc_at, if_pos rfl, up1_n (by decide), m2, sl]
          have p15 : sc σ3 149 (up1 (σ3 149) 19 ms) 149 15 = 0 := by rw [sc_at, if_pos rfl, up1_n (by decide), m4]
          have p16 : sc σ3 149 (up1 (σ3 149) 19 ms) 149 16 = σ 149 16 := by rw [sc_at, if_pos rfl, up1_n (by decide), m5, g5, f5, b16]
          have p18 : sc σ3 149 (up1 (σ3 149) 19 ms) 149 18 = 0 := by rw [sc_at, if_pos rfl, up1_n (by decide), m1.2 18 (by decide) (by decide) (by decide) (by decide), g1.2 18 (by decide) (by decide) (by decide) (by decide), f1.2 18 (by decide) (by decide) (by decide) (by decide), b18]
          have p19 : sc σ3 149 (up1 (σ3 149) 19 ms) 149 19 = ms := by rw [sc_at, if_pos rfl, up1_s]
          have go3 : Rn 186 0 [some (vR 149)] [] (T0 n) (sc σ3 149 (up1 (σ3 149) 19 ms)) (fun r T' σ' => Rn 175 68 [some (vR 149), none] (sx_push r []) T' σ' K) := by
            generalize sc σ3 149 (up1 (σ3 149) 19 ms) = σ4 at *
            have R4 := rfS_ok h p1
            have k3 := (skF_in (t := t) (L := L) 1600 (s2 + msE ms) (by unfold msE; split <;> omega) (by omega) (by unfold msE; split <;> omega)).1
            have mm : 3 ≤ msE ms := by unfold msE; split <;> omega
            refine x186f R4 p13 (by omega) (by omega) p15 rfl (fun y3 σ5 q1 q2 q3 q4 => ?_) (fun y3 σ5 q1 q2 q3 => ?_)
            · have bs : skF t L 1600 (s2 + msE ms) < L := by
                apply Classical.byContradiction
                intro w
                rw [bt_out (by omega)] at y3
                omega
              have nx := hK1 σ5 ms _ ⟨y0, y1, hms, sp, y3, rfl⟩ (rfS_tr p1 (rfS_0 q1)) q2 (by omega) (Or.inr (by
                rw [Int.add_sub_cancel, y3]
                unfold sml dgt
                omega)) q3 (by rw [q4, p16]) (by rw [q1.2 18 (by decide) (by decide) (by decide) (by decide), p18]) (by rw [q1.2 19 (by decide) (by decide) (by decide) (by decide), p19])
              simp only [s175_68, s175_69, Int.reduceToNat, Int.reducePow, Nat.reducePow, Int.reduceLE, Int.reduceLT, Int.reduceNeg, Int.reduceEq, Int.reduceNe, Int.reduceAdd, Int.reduceSub, Int.reduceMul, and_self, sx_push, tf, List.length_cons, List.length_nil, Option.some.injEq, exists_eq_left', Nat.reduceAdd, Nat.reduceLeDiff, true_and, and_true, true_or, or_true, Int.zero_add, Nat.zero_le, eq_self, ne_eq, not_true_eq_false, not_false_eq_true, false_implies, true_implies, implies_true, b2i_0, b2i_1, b2i_01, up_sc, sc_at, sc_sc, ite_true, ite_false, if_true, if_false, Nat.reduceEqDiff, reduceIte]
              repeat' (first | intro _ | refine And.intro ?_ ?_)
              all_goals first | omega | exact nx
            · have nx := x175w (n := n) (K := K) (m := 1) (by rw [q2]; decide) (hK0 σ5 _ (Or.inr ⟨y0, Or.inr ⟨y1, Or.inr ⟨ms, hms, sp, y3, rfl⟩⟩⟩) (rfS_tr p1 (rfS_0 q1)) q2 q3)
              simp only [s175_68, s175_69, Int.reduceToNat, Int.reducePow, Nat.reducePow, Int.reduceLE, Int.reduceLT, Int.reduceNeg, Int.reduceEq, Int.reduceNe, Int.reduceAdd, Int.reduceSub, Int.reduceMul, and_self, sx_push, tf, List.length_cons, List.length_nil, Option.some.injEq, exists_eq_left', Nat.reduceAdd, Nat.reduceLeDiff, true_and, and_true, true_or, or_true, Int.zero_add, Nat.zero_le, eq_self, ne_eq, not_true_eq_false, not_false_eq_true, false_implies, true_implies, implies_true, b2i_0, b2i_1, b2i_01, up_sc, sc_at, sc_sc, ite_true, ite_false, if_true, if_false, Nat.reduceEqDiff, reduceIte]
              repeat' (first | intro _ | refine And.intro ?_ ?_)
              all_goals first | omega | exact nx
          have hm' : ownP t L s2 - 2 = ms := hm.symm
          simp only [s175_19, s175_20, s175_23, s175_26, s175_27, s175_30, s175_31, s175_32, s175_35, s175_47, s175_48, s175_51, s175_54, s175_55, s175_56, s175_59, s175_60, s175_61, s175_64, s175_65, Int.reduceToNat, Int.reducePow, Nat.reducePow, Int.reduceLE, Int.reduceLT, Int.reduceNeg, Int.reduceEq, Int.reduceNe, Int.reduceAdd, Int.reduceSub, Int.reduceMul, and_self, sx_push, tf, List.length_cons, List.length_nil, Option.some.injEq, exists_eq_left', Nat.reduceAdd, Nat.reduceLeDiff, true_and, and_true, true_or, or_true, Int.zero_add, Nat.zero_le, eq_self, ne_eq, not_true_eq_false, not_false_eq_true, false_implies, true_implies, implies_true, b2i_0, b2i_1, b2i_01, up_sc, sc_at, sc_sc, ite_true, ite_false, if_true, if_false, Nat.reduceEqDiff, reduceIte, x178, m4, ow, x185, hm']
          repeat' (first | intro _ | refine And.intro ?_ ?_)
          all_goals first | omega | exact go3
        · have z2 : ∀ j : Nat, 2 ≤ j → j ≤ 4 → ¬ spJ t L (sx_str j) s2 = true := fun j j2 j4 w => z (by rw [(own_iff (show j < 7 by omega)).mpr w]; omega)
          have w183 := fun K => x183y (n := n) (σ := σ3) (K := K) (k := 1) (a := s2) m4
          have c15 : sc σ3 149 (up1 (up1 (σ3 149) 15 1) 16 s2) 149 15 = 1 := by rw [sc_at, if_pos rfl, up1_n (by decide), up1_s]
          have c16 : sc σ3 149 (up1 (up1 (σ3 149) 15 1) 16 s2) 149 16 = s2 := by rw [sc_at, if_pos rfl, up1_s]
          have nx := x175z (n := n) (K := K) (σ := sc σ3 149 (up1 (up1 (σ3 149) 15 1) 16 s2)) (by rw [c15]; decide) (fall _ (rf0_tr m1 rf0_56) c15 c16 (z2 2 (by decide) (by decide)) (z2 3 (by decide) (by decide)) (z2 4 (by decide) (by decide)))
          simp only [s175_19, s175_20, s175_23, s175_26, s175_27, s175_30, s175_31, s175_32, s175_35, s175_38, s175_39, s175_40, s175_41, s175_44, Int.reduceToNat, Int.reducePow, Nat.reducePow, Int.reduceLE, Int.reduceLT, Int.reduceNeg, Int.reduceEq, Int.reduceNe, Int.reduceAdd, Int.reduceSub, Int.reduceMul, and_self, sx_push, tf, List.length_cons, List.length_nil, Option.some.injEq, exists_eq_left', Nat.reduceAdd, Nat.reduceLeDiff, true_and, and_true, true_or, or_true, Int.zero_add, Nat.zero_le, eq_self, ne_eq, not_true_eq_false, not_false_eq_true, false_implies, true_implies, implies_true, b2i_0, b2i_1, b2i_01, up_sc, sc_at, sc_sc, ite_true, ite_false, if_true, if_false, Nat.reduceEqDiff, reduceIte, x178, m4, ow, x185, m3, w183]
          repeat' (first | intro _ | refine And.intro ?_ ?_)
          all_goals first | omega | exact nx
      simp only [s175_15, s175_16, Int.reduceToNat, Int.reducePow, Nat.reducePow, Int.reduceLE, Int.reduceLT, Int.reduceNeg, Int.reduceEq, Int.reduceNe, Int.reduceAdd, Int.reduceSub, Int.reduceMul, and_self, sx_push, tf, List.length_cons, List.length_nil, Option.some.injEq, exists_eq_left', Nat.reduceAdd, Nat.reduceLeDiff, true_and, and_true, true_or, or_true, Int.zero_add, Nat.zero_le, eq_self, ne_eq, not_true_eq_false, not_false_eq_true, false_implies, true_implies, implies_true, b2i_0, b2i_1, b2i_01, up_sc, sc_at, sc_sc, ite_true, ite_false, if_true, if_false, Nat.reduceEqDiff, reduceIte]
      repeat' (first | intro _ | refine And.intro ?_ ?_)
      all_goals first | omega | exact go2
    simp only [s175_10, s175_11, s175_12, Int.reduceToNat, Int.reducePow, Nat.reducePow, Int.reduceLE, Int.reduceLT, Int.reduceNeg, Int.reduceEq, Int.reduceNe, Int.reduceAdd, Int.reduceSub, Int.reduceMul, and_self, sx_push, tf, List.length_cons, List.length_nil, Option.some.injEq, exists_eq_left', Nat.reduceAdd, Nat.reduceLeDiff, true_and, and_true, true_or, or_true, Int.zero_add, Nat.zero_le, eq_self, ne_eq, not_true_eq_false, not_false_eq_true, false_implies, true_implies, implies_true, b2i_0, b2i_1, b2i_01, up_sc, sc_at, sc_sc, ite_true, ite_false, if_true, if_false, Nat.reduceEqDiff, reduceIte]
    repeat' (first | intro _ | refine And.intro ?_ ?_)
    all_goals first | omega | exact go1
  simp only [s175_0, s175_1, s175_2, s175_5, s175_6, s175_7, Int.reduceToNat, Int.reducePow, Nat.reducePow, Int.reduceLE, Int.reduceLT, Int.reduceNeg, Int.reduceEq, Int.reduceNe, Int.reduceAdd, Int.reduceSub, Int.reduceMul, and_self, sx_push, tf, List.length_cons, List.length_nil, Option.some.injEq, exists_eq_left', Nat.reduceAdd, Nat.reduceLeDiff, true_and, and_true, true_or, or_true, Int.zero_add, Nat.zero_le, eq_self, ne_eq, not_true_eq_false, not_false_eq_true, false_implies, true_implies, implies_true, b2i_0, b2i_1, b2i_01, up_sc, sc_at, sc_sc, ite_true, ite_false, if_true, if_false, Nat.reduceEqDiff, reduceIte]
  repeat' (first | intro _ | refine And.intro ?_ ?_)
  all_goals first | omega | exact go
end SE
