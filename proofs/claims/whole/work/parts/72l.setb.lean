/-! a text: words, signs, numbers: the reference -/
def rf0 (σ σ' : sxS) : Prop := (∀ q, q ≠ 149 → σ' q = σ q) ∧ ∀ j, j ≠ 13 → j ≠ 14 → j ≠ 15 → j ≠ 16 → σ' 149 j = σ 149 j
theorem rf0_tr {σ σ' σ'' : sxS} (h1 : rf0 σ σ') (h2 : rf0 σ' σ'') : rf0 σ σ'' := ⟨fun q hq => by rw [h2.1 q hq, h1.1 q hq], fun j a b c d => by rw [h2.2 j a b c d, h1.2 j a b c d]⟩
theorem rf0_ok {σ σ' : sxS} {t : Int → Int} {L : Int} (h : rOk σ t L) (hf : rf0 σ σ') : rOk σ' t L := by
  unfold rOk at h ⊢
  rw [hf.1 154 (by decide), hf.1 156 (by decide), hf.2 12 (by decide) (by decide) (by decide) (by decide)]
  exact h
theorem rf0_13 {σ : sxS} {v : Int} : rf0 σ (sc σ 149 (up1 (σ 149) 13 v)) := ⟨fun q hq => by rw [sc_at, if_neg hq], fun j a _ _ _ => by rw [sc_at, if_pos rfl, up1_n a]⟩
theorem rf0_56 {σ : sxS} {k p : Int} : rf0 σ (sc σ 149 (up1 (up1 (σ 149) 15 k) 16 p)) := ⟨fun q hq => by rw [sc_at, if_neg hq], fun j _ _ a b => by rw [sc_at, if_pos rfl, up1_n b, up1_n a]⟩
/-- where a word may begin -/
def wP (t : Int → Int) (L a : Int) : Prop := ¬ sml (bt t L a) ∨ (¬ sml (bt t L (a - 1)) ∧ ¬ dgt (bt t L (a - 1)))
section SB
variable {n : Nat} {σ : sxS} {K : Option sxV → sxT → sxS → Prop} {t : Int → Int} {L : Int}
theorem x177f (h : rOk σ t L) {a s : Int} (ha : σ 149 13 = a) (a0 : 0 ≤ a) (a1 : a ≤ L) (h0 : σ 149 15 = 0) (hw : wP t L a) (hs : skF t L 1600 a = s) (hK1 : sml (bt t L s) → ∀ σ', rf0 σ σ' → σ' 149 13 = ltF t L 1600 s → σ' 149 14 = s → σ' 149 15 = 0 → σ' 149 16 = σ 149 16 → K none (T0 n) σ') (hK0 : ¬ sml (bt t L s) → ∀ σ', rf0 σ σ' → σ' 149 15 = 1 → σ' 149 16 = s → K none (T0 n) σ') : Rn 177 0 [some (vR 149)] [] (T0 n) σ K := by
  obtain ⟨r1, r2, r3, r4⟩ := h
  obtain ⟨k1, k2, k3⟩ := skF_in (t := t) (L := L) 1600 a a0 a1 (by omega)
  rw [hs] at k1 k2 k3
  subst hs
  refine x177 r1 r2.2 r3 ha a0 a1 h0 (fun y1 y2 y3 => ?_) (fun y => ?_)
  · exact hK1 y1 _ ⟨fun q hq => by rw [sc_at, if_neg hq], fun j a b _ _ => by rw [sc_at, if_pos rfl, up1_n a, up1_n b, up1_n a]⟩ (by rw [sc_at, if_pos rfl, up1_s]) (by rw [sc_at, if_pos rfl, up1_n (by decide), up1_s]) (by rw [sc_at, if_pos rfl, up1_n (by decide), up1_n (by decide), up1_n (by decide), h0]) (by rw [sc_at, if_pos rfl, up1_n (by decide), up1_n (by decide), up1_n (by decide)])
  · refine hK0 (fun z => ?_) _ ⟨fun q hq => by rw [sc_at, if_neg hq], fun j a b c d => by rw [sc_at, if_pos rfl, up1_n d, up1_n c, up1_n b, up1_n a]⟩ (by rw [sc_at, if_pos rfl, up1_n (by decide), up1_s]) (by rw [sc_at, if_pos rfl, up1_s])
    by_cases e : skF t L 1600 a = a
    · rw [e] at z y
      rcases hw with w | w
      · exact w z
      · exact y ⟨z, w.1, w.2⟩
    · have b := k3 e
      unfold blk at b
      unfold sml dgt at y
      unfold sml at z
      omega
theorem x176n {k : Int} (h : σ 149 15 ≠ 0) : Rn 176 0 [some (vR 149), some (vI k)] [] (T0 n) σ K ↔ K none (T0 n) σ := by
  refine Rn_iff fun K hK => ?_
  simp only [s176_0, s176_1, s176_4, s176_5, s176_8, s176_28, Int.reduceToNat, Int.reducePow, Nat.reducePow, Int.reduceLE, Int.reduceLT, Int.reduceNeg, Int.reduceEq, Int.reduceNe, Int.reduceAdd, Int.reduceSub, Int.reduceMul, and_self, sx_push, tf, List.length_cons, List.length_nil, Option.some.injEq, exists_eq_left', Nat.reduceAdd, Nat.reduceLeDiff, true_and, and_true, true_or, or_true, Int.zero_add, Nat.zero_le, eq_self, ne_eq, not_true_eq_false, not_false_eq_true, false_implies, true_implies, implies_true, b2i_0, b2i_1, b2i_01, up_sc, sc_at, sc_sc, ite_true, ite_false, if_true, if_false, Nat.reduceEqDiff, reduceIte, x177n h, x178]
  repeat' (first | intro _ | refine And.intro ?_ ?_)
  all_goals first | exact hK | omega | contradiction
theorem x186n (h : σ 149 15 ≠ 0) : Rn 186 0 [some (vR 149)] [] (T0 n) σ K ↔ K none (T0 n) σ := by
  refine Rn_iff fun K hK => ?_
  simp only [s186_0, s186_1, s186_4, s186_7, Int.reduceToNat, Int.reducePow, Nat.reducePow, Int.reduceLE, Int.reduceLT, Int.reduceNeg, Int.reduceEq, Int.reduceNe, Int.reduceAdd, Int.reduceSub, Int.reduceMul, and_self, sx_push, tf, List.length_cons, List.length_nil, Option.some.injEq, exists_eq_left', Nat.reduceAdd, Nat.reduceLeDiff, true_and, and_true, true_or, or_true, Int.zero_add, Nat.zero_le, eq_self, ne_eq, not_true_eq_false, not_false_eq_true, false_implies, true_implies, implies_true, b2i_0, b2i_1, b2i_01, up_sc, sc_at, sc_sc, ite_true, ite_false, if_true, if_false, Nat.reduceEqDiff, reduceIte, x178]
  repeat' (first | intro _ | refine And.intro ?_ ?_)
  all_goals first | exact hK | omega | contradiction
theorem x190n (h : σ 149 15 ≠ 0) : Rn 190 0 [some (vR 149), none] [] (T0 n) σ K ↔ K (some (vI 0)) (T0 n) σ := by
  refine Rn_iff fun K hK => ?_
  simp only [s190_0, s190_1, s190_4, s190_7, s190_8, Int.reduceToNat, Int.reducePow, Nat.reducePow, Int.reduceLE, Int.reduceLT, Int.reduceNeg, Int.reduceEq, Int.reduceNe, Int.reduceAdd, Int.reduceSub, Int.reduceMul, and_self, sx_push, tf, List.length_cons, List.length_nil, Option.some.injEq, exists_eq_left', Nat.reduceAdd, Nat.reduceLeDiff, true_and, and_true, true_or, or_true, Int.zero_add, Nat.zero_le, eq_self, ne_eq, not_true_eq_false, not_false_eq_true, false_implies, true_implies, implies_true, b2i_0, b2i_1, b2i_01, up_sc, sc_at, sc_sc, ite_true, ite_false, if_true, if_false, Nat.reduceEqDiff, reduceIte, x178]
  repeat' (first | intro _ | refine And.intro ?_ ?_)
  all_goals first | exact hK | omega | contradiction
theorem x176f (h : rOk σ t L) {a s : Int} (ha : σ 149 13 = a) (a0 : 0 ≤ a) (a1 : a ≤ L) (h0 : σ 149 15 = 0) (hw : wP t L a) (hs : skF t L 1600 a = s) {j : Nat} (hj : j < 7) {kj : Int} (hkj : kj = j) (hK1 : spJ t L (sx_str j) s = true → ∀ σ', rf0 σ σ' → σ' 149 13 = s + (sx_str j).length → σ' 149 14 = s → σ' 149 15 = 0 → σ' 149 16 = σ 149 16 → K none (T0 n) σ') (hK0 : ¬ spJ t L (sx_str j) s = true → ∀ σ', rf0 σ σ' → σ' 149 15 = 1 → σ' 149 16 = s → K none (T0 n) σ') : Rn 176 0 [some (vR 149), some (vI kj)] [] (T0 n) σ K := by
  have r2 := h.2.1
  have k1 := (skF_in (t := t) (L := L) 1600 a a0 a1 (by omega)).1
  rw [hs] at k1
  have go : Rn 177 0 [some (vR 149)] [] (T0 n) σ (fun r T' σ' => Rn 176 4 [some (vR 149), some (vI kj)] (sx_push r []) T' σ' K) := by
    refine x177f h ha a0 a1 h0 hw hs (fun y σ1 f1 f2 f3 f4 f5 => ?_) (fun y σ1 f1 f2 f3 => ?_)
    · have ow := fun K => x184 (n := n) (K := K) (rf0_ok h f1) f3 f2 (by omega) (by omega)
      by_cases z : spJ t L (sx_str j) s = true
      · have hK := hK1 z σ1 f1 (by rw [f2, spJ_len _ 1600 s (str_al hj) (by omega) (by omega) (by omega) z]) f3 f4 f5
        have oe := (own_iff hj).mpr z
        simp only [s176_4, s176_5, s176_8, s176_11, s176_12, s176_15, s176_16, s176_28, Int.reduceToNat, Int.reducePow, Nat.reducePow, Int.reduceLE, Int.reduceLT, Int.reduceNeg, Int.reduceEq, Int.reduceNe, Int.reduceAdd, Int.reduceSub, Int.reduceMul, and_self, sx_push, tf, List.length_cons, List.length_nil, Option.some.injEq, exists_eq_left', Nat.reduceAdd, Nat.reduceLeDiff, true_and, and_true, true_or, or_true, Int.zero_add, Nat.zero_le, eq_self, ne_eq, not_true_eq_false, not_false_eq_true, false_implies, true_implies, implies_true, b2i_0, b2i_1, b2i_01, up_sc, sc_at, sc_sc, ite_true, ite_false, if_true, if_false, Nat.reduceEqDiff, reduceIte, x178, f4, ow, oe, hkj]
        repeat' (first | intro _ | refine And.intro ?_ ?_)
        all_goals first | omega | exact hK
      · have hK := hK0 z (sc σ1 149 (up1 (up1 (σ1 149) 15 1) 16 s)) (rf0_tr f1 rf0_56) (by rw [sc_at, if_pos rfl, up1_n (by decide), up1_s]) (by rw [sc_at, if_pos rfl, up1_s])
        have oe : ownP t L s ≠ j := fun w => z ((own_iff hj).mp w)
        have w183 := fun K => x183y (n := n) (σ := σ1) (K := K) (k := 1) (a := s) f4
        simp only [s176_4, s176_5, s176_8, s176_11, s176_12, s176_15, s176_16, s176_19, s176_20, s176_21, s176_22, s176_25, s176_28, Int.reduceToNat, Int.reducePow, Nat.reducePow, Int.reduceLE, Int.reduceLT, Int.reduceNeg, Int.reduceEq, Int.reduceNe, Int.reduceAdd, Int.reduceSub, Int.reduceMul, and_self, sx_push, tf, List.length_cons, List.length_nil, Option.some.injEq, exists_eq_left', Nat.reduceAdd, Nat.reduceLeDiff, true_and, and_true, true_or, or_true, Int.zero_add, Nat.zero_le, eq_self, ne_eq, not_true_eq_false, not_false_eq_true, false_implies, true_implies, implies_true, b2i_0, b2i_1, b2i_01, up_sc, sc_at, sc_sc, ite_true, ite_false, if_true, if_false, Nat.reduceEqDiff, reduceIte, x178, f4, ow, hkj, f3, w183]
        repeat' (first | intro _ | refine And.intro ?_ ?_)
        all_goals first | omega | exact hK
    · have hK := hK0 (fun z => y (spJ_sml hj z)) σ1 f1 f2 f3
      simp only [s176_4, s176_5, s176_8, s176_28, Int.reduceToNat, Int.reducePow, Nat.reducePow, Int.reduceLE, Int.reduceLT, Int.reduceNeg, Int.reduceEq, Int.reduceNe, Int.reduceAdd, Int.reduceSub, Int.reduceMul, and_self, sx_push, tf, List.length_cons, List.length_nil, Option.some.injEq, exists_eq_left', Nat.reduceAdd, Nat.reduceLeDiff, true_and, and_true, true_or, or_true, Int.zero_add, Nat.zero_le, eq_self, ne_eq, not_true_eq_false, not_false_eq_true, false_implies, true_implies, implies_true, b2i_0, b2i_1, b2i_01, up_sc, sc_at, sc_sc, ite_true, ite_false, if_true, if_false, Nat.reduceEqDiff, reduceIte, x178, f2]
      repeat' (first | intro _ | refine And.intro ?_ ?_)
      all_goals first | omega | exact hK
  simp only [s176_0, s176_1, Int.reduceToNat, Int.reducePow, Nat.reducePow, Int.reduceLE, Int.reduceLT, Int.reduceNeg, Int.reduceEq, Int.reduceNe, Int.reduceAdd, Int.reduceSub, Int.reduceMul, and_self, sx_push, tf, List.length_cons, List.length_nil, Option.some.injEq, exists_eq_left', Nat.reduceAdd, Nat.reduceLeDiff, true_and, and_true, true_or, or_true, Int.zero_add, Nat.zero_le, eq_self, ne_eq, not_true_eq_false, not_false_eq_true, false_implies, true_implies, implies_true, b2i_0, b2i_1, b2i_01, up_sc, sc_at, sc_sc, ite_true, ite_false, if_true, if_false, Nat.reduceEqDiff, reduceIte]
  repeat' (first | intro _ | refine And.intro ?_ ?_)
  all_goals first | omega | exact go
theorem x186f (h : rOk σ t L) {a s : Int} (ha : σ 149 13 = a) (a0 : 0 ≤ a) (a1 : a ≤ L) (h0 : σ 149 15 = 0) (hs : skF t L 1600 a = s) (hK1 : bt t L s = 59 → ∀ σ', rf0 σ σ' → σ' 149 13 = s + 1 → σ' 149 15 = 0 → σ' 149 16 = σ 149 16 → K none (T0 n) σ') (hK0 : bt t L s ≠ 59 → ∀ σ', rf0 σ σ' → σ' 149 15 = 1 → σ' 149 16 = s → K none (T0 n) σ') : Rn 186 0 [some (vR 149)] [] (T0 n) σ K := by
  obtain ⟨r1, r2, r3, r4⟩ := h
  have k1 := (skF_in (t := t) (L := L) 1600 a a0 a1 (by omega)).1
  have main : Rn 179 0 [some (vR 149)] [] (T0 n) σ (fun r T' σ' => Rn 186 12 [some (vR 149)] (sx_push r []) T' σ' K) := by
    refine x179 1600 a σ r1 r2.2 r3 ha a0 a1 (by omega) ?_
    rw [hs] at k1 ⊢
    have u13 : up1 (σ 149) 13 s 13 = s := up1_s _ _ _
    have u15 : up1 (σ 149) 13 s 15 = 0 := by rw [up1_n (by decide), h0]
    by_cases y : bt t L s = 59
    · have hK := hK1 y (sc σ 149 (up1 (up1 (σ 149) 13 s) 13 (s + 1))) ⟨fun q hq => by rw [sc_at, if_neg hq], fun j a _ _ _ => by rw [sc_at, if_pos rfl, up1_n a, up1_n a]⟩ (by rw [sc_at, if_pos rfl, up1_s]) (by rw [sc_at, if_pos rfl, up1_n (by decide), u15]) (by rw [sc_at, if_pos rfl, up1_n (by decide), up1_n (by decide)])
      simp only [s186_12, s186_14, s186_17, s186_18, s186_19, s186_22, s186_23, s186_24, s186_27, s186_39, Int.reduceToNat, Int.reducePow, Nat.reducePow, Int.reduceLE, Int.reduceLT, Int.reduceNeg, Int.reduceEq, Int.reduceNe, Int.reduceAdd, Int.reduceSub, Int.reduceMul, and_self, sx_push, tf, List.length_cons, List.length_nil, Option.some.injEq, exists_eq_left', Nat.reduceAdd, Nat.reduceLeDiff, true_and, and_true, true_or, or_true, Int.zero_add, Nat.zero_le, eq_self, ne_eq, not_true_eq_false, not_false_eq_true, false_implies, true_implies, implies_true, b2i_0, b2i_1, b2i_01, up_sc, sc_at, sc_sc, ite_true, ite_false, if_true, if_false, Nat.reduceEqDiff, reduceIte, u13, y]
      repeat' (first | intro _ | refine And.intro ?_ ?_)
      all_goals first | omega | exact hK
    · have hK := hK0 y (sc σ 149 (up1 (up1 (up1 (σ 149) 13 s) 15 1) 16 s)) ⟨fun q hq => by rw [sc_at, if_neg hq], fun j a _ c d => by rw [sc_at, if_pos rfl, up1_n d, up1_n c, up1_n a]⟩ (by rw [sc_at, if_pos rfl, up1_n (by decide), up1_s]) (by rw [sc_at, if_pos rfl, up1_s])
      have w183 := fun K => x183y (n := n) (σ := sc σ 149 (up1 (σ 149) 13 s)) (K := K) (k := 1) (a := s) (by rw [sc_at, if_pos rfl, u15])
      simp only [sc_at, reduceIte, sc_sc] at w183
      simp only [s186_12, s186_14, s186_30, s186_31, s186_32, s186_33, s186_36, s186_39, Int.reduceToNat, Int.reducePow, Nat.reducePow, Int.reduceLE, Int.reduceLT, Int.reduceNeg, Int.reduceEq, Int.reduceNe, Int.reduceAdd, Int.reduceSub, Int.reduceMul, and_self, sx_push, tf, List.length_cons, List.length_nil, Option.some.injEq, exists_eq_left', Nat.reduceAdd, Nat.reduceLeDiff, true_and, and_true, true_or, or_true, Int.zero_add, Nat.zero_le, eq_self, ne_eq, not_true_eq_false, not_false_eq_true, false_implies, true_implies, implies_true, b2i_0, b2i_1, b2i_01, up_sc, sc_at, sc_sc, ite_true, ite_false, if_true, if_false, Nat.reduceEqDiff, reduceIte, u13, w183]
      repeat' (first | intro _ | refine And.intro ?_ ?_)
      all_goals first | omega | exact hK
  simp only [s186_0, s186_1, s186_4, s186_7, s186_8, s186_9, Int.reduceToNat, Int.reducePow, Nat.reducePow, Int.reduceLE, Int.reduceLT, Int.reduceNeg, Int.reduceEq, Int.reduceNe, Int.reduceAdd, Int.reduceSub, Int.reduceMul, and_self, sx_push, tf, List.length_cons, List.length_nil, Option.some.injEq, exists_eq_left', Nat.reduceAdd, Nat.reduceLeDiff, true_and, and_true, true_or, or_true, Int.zero_add, Nat.zero_le, eq_self, ne_eq, not_true_eq_false, not_false_eq_true, false_implies, true_implies, implies_true, b2i_0, b2i_1, b2i_01, up_sc, sc_at, sc_sc, ite_true, ite_false, if_true, if_false, Nat.reduceEqDiff, reduceIte, x178, h0]
  repeat' (first | intro _ | refine And.intro ?_ ?_)
  all_goals first | omega | exact main
theorem x190s (h : rOk σ t L) {x s v : Int} (hx : σ 149 13 = x) (hf : σ 149 14 = s) (x0 : 0 ≤ x) (xs : x - s ≠ 3) (s0 : 0 ≤ s) (sx : s ≤ 1600) (h0 : σ 149 15 = 0) (v0 : 0 ≤ v) (v1 : v ≤ 999) (hd : dgt (bt t L x)) (hK : ∀ σ', rf0 σ σ' → σ' 149 13 = x + 1 → σ' 149 14 = s → σ' 149 15 = 0 → σ' 149 16 = σ 149 16 → Rn 190 72 [some (vR 149), some (vI (10 * v + bt t L x - 48))] [] (T0 n) σ' K) : Rn 190 72 [some (vR 149), some (vI v)] [] (T0 n) σ K := by
  obtain ⟨r1, r2, r3, r4⟩ := h
  have xL := bt_dg hd x0
  have go := hK (sc σ 149 (up1 (σ 149) 13 (x + 1))) rf0_13 (by rw [sc_at, if_pos rfl, up1_s]) (by rw [sc_at, if_pos rfl, up1_n (by decide), hf]) (by rw [sc_at, if_pos rfl, up1_n (by decide), h0]) (by rw [sc_at, if_pos rfl, up1_n (by decide)])
  unfold dgt at hd
  rw [s190_72]
  simp only [s190_73, s190_74, s190_77, s190_80, s190_83, s190_84, s190_87, s190_90, s190_91, s190_94, s190_95, s190_98, s190_99, s190_100, s190_103, s190_104, s190_105, s190_106, s190_109, s190_112, s190_114, s190_115, s190_116, s190_117, s190_118, s190_121, s190_124, s190_125, s190_127, s190_128, s190_129, s190_130, s190_131, s190_134, s190_135, s190_136, s190_139, Int.reduceToNat, Int.reducePow, Nat.reducePow, Int.reduceLE, Int.reduceLT, Int.reduceNeg, Int.reduceEq, Int.reduceNe, Int.reduceAdd, Int.reduceSub, Int.reduceMul, and_self, sx_push, tf, List.length_cons, List.length_nil, Option.some.injEq, exists_eq_left', Nat.reduceAdd, Nat.reduceLeDiff, true_and, and_true, true_or, or_true, Int.zero_add, Nat.zero_le, eq_self, ne_eq, not_true_eq_false, not_false_eq_true, false_implies, true_implies, implies_true, b2i_0, b2i_1, b2i_01, up_sc, sc_at, sc_sc, ite_true, ite_false, if_true, if_false, Nat.reduceEqDiff, reduceIte, x180 r1 r2.2 r3, x182 r1 r2.2 r3, x178, hx, hf, h0]
  repeat' (first | intro _ | refine And.intro ?_ ?_)
  all_goals first | omega | exact go
theorem x190x {v : Int} (h : rOk σ t L) (h0 : σ 149 15 ≠ 0) (hK : K (some (vI v)) (T0 n) σ) : Rn 190 72 [some (vR 149), some (vI v)] [] (T0 n) σ K := by
  obtain ⟨r1, r2, r3, r4⟩ := h
  have w183 := fun a K => x183n (n := n) (σ := σ) (K := K) (k := 2) (a := a) h0
  rw [s190_72]
  simp only [s190_73, s190_74, s190_77, s190_80, s190_83, s190_84, s190_87, s190_142, s190_143, s190_146, s190_149, s190_150, s190_151, s190_152, s190_155, s190_158, s190_159, Int.reduceToNat, Int.reducePow, Nat.reducePow, Int.reduceLE, Int.reduceLT, Int.reduceNeg, Int.reduceEq, Int.reduceNe, Int.reduceAdd, Int.reduceSub, Int.reduceMul, and_self, sx_push, tf, List.length_cons, List.length_nil, Option.some.injEq, exists_eq_left', Nat.reduceAdd, Nat.reduceLeDiff, true_and, and_true, true_or, or_true, Int.zero_add, Nat.zero_le, eq_self, ne_eq, not_true_eq_false, not_false_eq_true, false_implies, true_implies, implies_true, b2i_0, b2i_1, b2i_01, up_sc, sc_at, sc_sc, ite_true, ite_false, if_true, if_false, Nat.reduceEqDiff, reduceIte, x182 r1 r2.2 r3, x178, w183]
  repeat' (first | intro _ | refine And.intro ?_ ?_)
  all_goals first | omega | contradiction | exact hK
theorem x190q (h : rOk σ t L) {x s v : Int} (hx : σ 149 13 = x) (hf : σ 149 14 = s) (x0 : 0 ≤ x) (xs : x - s = 3) (h0 : σ 149 15 = 0) (v0 : 0 ≤ v) (v1 : v ≤ 999) (hd : dgt (bt t L x)) (hK : ∀ σ' v', rf0 σ σ' → σ' 149 15 = 1 → σ' 149 16 = x → K (some (vI v')) (T0 n) σ') : Rn 190 72 [some (vR 149), some (vI v)] [] (T0 n) σ K := by
  have h' := h
  obtain ⟨r1, r2, r3, r4⟩ := h'
  have xL := bt_dg hd x0
  have ff : rf0 σ (sc σ 149 (up1 (up1 (up1 (σ 149) 15 1) 16 x) 13 (x + 1))) := ⟨fun q hq => by rw [sc_at, if_neg hq], fun j a _ c d => by rw [sc_at, if_pos rfl, up1_n a, up1_n d, up1_n c]⟩
  have f5 : sc σ 149 (up1 (up1 (up1 (σ 149) 15 1) 16 x) 13 (x + 1)) 149 15 = 1 := by rw [sc_at, if_pos rfl, up1_n (by decide), up1_n (by decide), up1_s]
  have f6 : sc σ 149 (up1 (up1 (up1 (σ 149) 15 1) 16 x) 13 (x + 1)) 149 16 = x := by rw [sc_at, if_pos rfl, up1_n (by decide), up1_s]
  have go := x190x (n := n) (K := K) (v := 10 * v + bt t L x - 48) (rf0_ok h ff) (by rw [f5]; decide) (hK _ _ ff f5 f6)
  have w183 := fun K => x183y (n := n) (σ := σ) (K := K) (k := 1) (a := x) h0
  have g13 : up1 (up1 (σ 149) 15 1) 16 x 13 = x := by rw [up1_n (by decide), up1_n (by decide), hx]
  have hr2 : rOk (sc σ 149 (up1 (up1 (σ 149) 15 1) 16 x)) t L := rf0_ok h rf0_56
  have w180 := fun i K => x180 (n := n) (K := K) hr2.1 hr2.2.1.2 hr2.2.2.1 (i := i)
  unfold dgt at hd
  rw [s190_72]
  simp only [s190_73, s190_74, s190_77, s190_80, s190_83, s190_84, s190_87, s190_90, s190_91, s190_94, s190_95, s190_98, s190_99, s190_100, s190_103, s190_104, s190_105, s190_106, s190_109, s190_112, s190_114, s190_115, s190_116, s190_117, s190_118, s190_121, s190_124, s190_125, s190_127, s190_128, s190_129, s190_130, s190_131, s190_134, s190_135, s190_136, s190_139, Int.reduceToNat, Int.reducePow, Nat.reducePow, Int.reduceLE, Int.reduceLT, Int.reduceNeg, Int.reduceEq, Int.reduceNe, Int.reduceAdd, Int.reduceSub, Int.reduceMul, and_self, sx_push, tf, List.length_cons, List.length_nil, Option.some.injEq, exists_eq_left', Nat.reduceAdd, Nat.reduceLeDiff, true_and, and_true, true_or, or_true, Int.zero_add, Nat.zero_le, eq_self, ne_eq, not_true_eq_false, not_false_eq_true, false_implies, true_implies, implies_true, b2i_0, b2i_1, b2i_01, up_sc, sc_at, sc_sc, ite_true, ite_false, if_true, if_false, Nat.reduceEqDiff, reduceIte, w180, x182 r1 r2.2 r3, x178, w183, hx, hf, h0, g13]
  repeat' (first | intro _ | refine And.intro ?_ ?_)
  all_goals first | omega | exact go
theorem x190e (h : rOk σ t L) {x s v : Int} (hx : σ 149 13 = x) (hf : σ 149 14 = s) (h0 : σ 149 15 = 0) (hd : ¬ dgt (bt t L x)) (hK1 : v ≤ 255 → K (some (vI v)) (T0 n) σ) (hK0 : 255 < v → ∀ σ', rf0 σ σ' → σ' 149 15 = 2 → σ' 149 16 = s → K (some (vI v)) (T0 n) σ') : Rn 190 72 [some (vR 149), some (vI v)] [] (T0 n) σ K := by
  obtain ⟨r1, r2, r3, r4⟩ := h
  unfold dgt at hd
  rw [s190_72]
  by_cases y : v ≤ 255
  · have hK := hK1 y
    simp only [s190_73, s190_74, s190_77, s190_80, s190_142, s190_143, s190_146, s190_158, s190_159, Int.reduceToNat, Int.reducePow, Nat.reducePow, Int.reduceLE, Int.reduceLT, Int.reduceNeg, Int.reduceEq, Int.reduceNe, Int.reduceAdd, Int.reduceSub, Int.reduceMul, and_self, sx_push, tf, List.length_cons, List.length_nil, Option.some.injEq, exists_eq_left', Nat.reduceAdd, Nat.reduceLeDiff, true_and, and_true, true_or, or_true, Int.zero_add, Nat.zero_le, eq_self, ne_eq, not_true_eq_false, not_false_eq_true, false_implies, true_implies, implies_true, b2i_0, b2i_1, b2i_01, up_sc, sc_at, sc_sc, ite_true, ite_false, if_true, if_false, Nat.reduceEqDiff, reduceIte, x182 r1 r2.2 r3, hx]
    repeat' (first | intro _ | refine And.intro ?_ ?_)
    all_goals first | omega | exact hK
  · have hK := hK0 (by omega) (sc σ 149 (up1 (up1 (σ 149) 15 2) 16 s)) rf0_56 (by rw [sc_at, if_pos rfl, up1_n (by decide), up1_s]) (by rw [sc_at, if_pos rfl, up1_s])
    have w183 := fun K => x183y (n := n) (σ := σ) (K := K) (k := 2) (a := s) h0
    simp only [s190_73, s190_74, s190_77, s190_80, s190_142, s190_143, s190_146, s190_149, s190_150, s190_151, s190_152, s190_155, s190_158, s190_159, Int.reduceToNat, Int.reducePow, Nat.reducePow, Int.reduceLE, Int.reduceLT, Int.reduceNeg, Int.reduceEq, Int.reduceNe, Int.reduceAdd, Int.reduceSub, Int.reduceMul, and_self, sx_push, tf, List.length_cons, List.length_nil, Option.some.injEq, exists_eq_left', Nat.reduceAdd, Nat.reduceLeDiff, true_and, and_true, true_or, or_true, Int.zero_add, Nat.zero_le, eq_self, ne_eq, not_true_eq_false, not_false_eq_true, false_implies, true_implies, implies_true, b2i_0, b2i_1, b2i_01, up_sc, sc_at, sc_sc, ite_true, ite_false, if_true, if_false, Nat.reduceEqDiff, reduceIte, x182 r1 r2.2 r3, hx, hf, w183]
    repeat' (first | intro _ | refine And.intro ?_ ?_)
    all_goals first | omega | exact hK
/-- where a number may not begin -/
def nP (t : Int → Int) (L a : Int) : Prop := sml (bt t L (a - 1)) ∨ dgt (bt t L (a - 1))
theorem x190a (h : rOk σ t L) {a : Int} (ha : σ 149 13 = a) (a0 : 0 ≤ a) (a1 : a ≤ L) (h0 : σ 149 15 = 0) (hw : nP t L a) (hK1 : skF t L 1600 a ≠ a → dgt (bt t L (skF t L 1600 a)) → ∀ σ', rf0 σ σ' → σ' 149 13 = skF t L 1600 a → σ' 149 14 = skF t L 1600 a → σ' 149 15 = 0 → σ' 149 16 = σ 149 16 → Rn 190 72 [some (vR 149), some (vI 0)] [] (T0 n) σ' K) (hK0 : (skF t L 1600 a = a ∨ ¬ dgt (bt t L (skF t L 1600 a))) → ∀ σ', rf0 σ σ' → σ' 149 15 = 1 → σ' 149 16 = skF t L 1600 a → K (some (vI 0)) (T0 n) σ') : Rn 190 0 [some (vR 149), none] [] (T0 n) σ K := by
  have h' := h
  obtain ⟨r1, r2, r3, r4⟩ := h'
  obtain ⟨k1, k2, k3⟩ := skF_in (t := t) (L := L) 1600 a a0 a1 (by omega)
  have main : Rn 179 0 [some (vR 149)] [] (T0 n) σ (fun r T' σ' => Rn 190 13 [some (vR 149), none] (sx_push r []) T' σ' K) := by
    refine x179 1600 a σ r1 r2.2 r3 ha a0 a1 (by omega) ?_
    generalize skF t L 1600 a = s at *
    have u13 : up1 (σ 149) 13 s 13 = s := up1_s _ _ _
    have f1 : rf0 σ (sc σ 149 (up1 (up1 (σ 149) 13 s) 14 s)) := ⟨fun q hq => by rw [sc_at, if_neg hq], fun j a b _ _ => by rw [sc_at, if_pos rfl, up1_n b, up1_n a]⟩
    have g13 : up1 (up1 (σ 149) 13 s) 14 s 13 = s := by rw [up1_n (by decide), up1_s]
    have g15 : up1 (up1 (σ 149) 13 s) 14 s 15 = 0 := by rw [up1_n (by decide), up1_n (by decide), h0]
    have hr2 := rf0_ok h f1
    have w181 := fun i K => x181 (n := n) (K := K) hr2.1 hr2.2.1.2 hr2.2.2.1 (i := i)
    have w182 := fun i K => x182 (n := n) (K := K) hr2.1 hr2.2.1.2 hr2.2.2.1 (i := i)
    have w183 := fun K => x183y (n := n) (σ := sc σ 149 (up1 (up1 (σ 149) 13 s) 14 s)) (K := K) (k := 1) (a := s) (by rw [sc_at, if_pos rfl, g15])
    simp only [sc_at, reduceIte, sc_sc] at w183
    unfold nP sml dgt at hw
    by_cases y : s ≠ a ∧ dgt (bt t L s)
    · have go := hK1 y.1 y.2 _ f1 (by rw [sc_at, if_pos rfl, g13]) (by rw [sc_at, if_pos rfl, up1_s]) (by rw [sc_at, if_pos rfl, g15]) (by rw [sc_at, if_pos rfl, up1_n (by decide), up1_n (by decide)])
      have b := k3 y.1
      have d := y.2
      unfold blk at b
      unfold dgt at d
      simp only [s190_13, s190_14, s190_15, s190_16, s190_19, s190_22, s190_23, s190_24, s190_27, s190_30, s190_33, s190_34, s190_35, s190_38, s190_39, s190_40, s190_43, s190_46, s190_47, s190_48, s190_51, s190_52, s190_53, s190_56, s190_70, s190_71, Int.reduceToNat, Int.reducePow, Nat.reducePow, Int.reduceLE, Int.reduceLT, Int.reduceNeg, Int.reduceEq, Int.reduceNe, Int.reduceAdd, Int.reduceSub, Int.reduceMul, and_self, sx_push, tf, List.length_cons, List.length_nil, Option.some.injEq, exists_eq_left', Nat.reduceAdd, Nat.reduceLeDiff, true_and, and_true, true_or, or_true, Int.zero_add, Nat.zero_le, eq_self, ne_eq, not_true_eq_false, not_false_eq_true, false_implies, true_implies, implies_true, b2i_0, b2i_1, b2i_01, up_sc, sc_at, sc_sc, ite_true, ite_false, if_true, if_false, Nat.reduceEqDiff, reduceIte, u13, g13, w181, w182]
      repeat' (first | intro _ | refine And.intro ?_ ?_)
      all_goals first | omega | exact go
    · have hK := hK0 (by
        by_cases z : s = a
        · exact Or.inl z
        · exact Or.inr (fun w => y ⟨z, w⟩)) (sc σ 149 (up1 (up1 (up1 (up1 (σ 149) 13 s) 14 s) 15 1) 16 s)) ⟨fun q hq => by rw [sc_at, if_neg hq], fun j a b c d => by rw [sc_at, if_pos rfl, up1_n d, up1_n c, up1_n b, up1_n a]⟩ (by rw [sc_at, if_pos rfl, up1_n (by decide), up1_s]) (by rw [sc_at, if_pos rfl, up1_s])
      unfold dgt at y
      by_cases z : s = a
      · rw [← z] at hw
        simp only [s190_13, s190_14, s190_15, s190_16, s190_19, s190_22, s190_23, s190_24, s190_27, s190_30, s190_33, s190_34, s190_35, s190_38, s190_39, s190_40, s190_43, s190_46, s190_47, s190_48, s190_51, s190_52, s190_53, s190_56, s190_59, s190_60, s190_61, s190_62, s190_65, s190_68, s190_69, Int.reduceToNat, Int.reducePow, Nat.reducePow, Int.reduceLE, Int.reduceLT, Int.reduceNeg, Int.reduceEq, Int.reduceNe, Int.reduceAdd, Int.reduceSub, Int.reduceMul, and_self, sx_push, tf, List.length_cons, List.length_nil, Option.some.injEq, exists_eq_left', Nat.reduceAdd, Nat.reduceLeDiff, true_and, and_true, true_or, or_true, Int.zero_add, Nat.zero_le, eq_self, ne_eq, not_true_eq_false, not_false_eq_true, false_implies, true_implies, implies_true, b2i_0, b2i_1, b2i_01, up_sc, sc_at, sc_sc, ite_true, ite_false, if_true, if_false, Nat.reduceEqDiff, reduceIte, u13, g13, w181, w182, w183]
        repeat' (first | intro _ | refine And.intro ?_ ?_)
        all_goals first | omega | exact hK
      · simp only [s190_13, s190_14, s190_15, s190_16, s190_19, s190_22, s190_23, s190_24, s190_27, s190_30, s190_33, s190_34, s190_35, s190_38, s190_39, s190_40, s190_43, s190_46, s190_47, s190_48, s190_51, s190_52, s190_53, s190_56, s190_59, s190_60, s190_61, s190_62, s190_65, s190_68, s190_69, Int.reduceToNat, Int.reducePow, Nat.reducePow, Int.reduceLE, Int.reduceLT, Int.reduceNeg, Int.reduceEq, Int.reduceNe, Int.reduceAdd, Int.reduceSub, Int.reduceMul, and_self, sx_push, tf, List.length_cons, List.length_nil, Option.some.injEq, exists_eq_left', Nat.reduceAdd, Nat.reduceLeDiff, true_and, and_true, true_or, or_true, Int.zero_add, Nat.zero_le, eq_self, ne_eq, not_true_eq_false, not_false_eq_true, false_implies, true_implies, implies_true, b2i_0, b2i_1, b2i_01, up_sc, sc_at, sc_sc, ite_true, ite_false, if_true, if_false, Nat.reduceEqDiff, reduceIte, u13, g13, w181, w182, w183]
        repeat' (first | intro _ | refine And.intro ?_ ?_)
        all_goals first | omega | exact hK
  simp only [s190_0, s190_1, s190_4, s190_7, s190_8, s190_9, s190_10, Int.reduceToNat, Int.reducePow, Nat.reducePow, Int.reduceLE, Int.reduceLT, Int.reduceNeg, Int.reduceEq, Int.reduceNe, Int.reduceAdd, Int.reduceSub, Int.reduceMul, and_self, sx_push, tf, List.length_cons, List.length_nil, Option.some.injEq, exists_eq_left', Nat.reduceAdd, Nat.reduceLeDiff, true_and, and_true, true_or, or_true, Int.zero_add, Nat.zero_le, eq_self, ne_eq, not_true_eq_false, not_false_eq_true, false_implies, true_implies, implies_true, b2i_0, b2i_1, b2i_01, up_sc, sc_at, sc_sc, ite_true, ite_false, if_true, if_false, Nat.reduceEqDiff, reduceIte, x178, h0]
  repeat' (first | intro _ | refine And.intro ?_ ?_)
  all_goals first | omega | exact main
theorem x190g (h : rOk σ t L) {a v e : Int} (ha : σ 149 13 = a) (a0 : 0 ≤ a) (a1 : a ≤ L) (h0 : σ 149 15 = 0) (hw : nP t L a) (hG : numG t L a v e) (hK : ∀ σ', rf0 σ σ' → σ' 149 13 = e → σ' 149 14 = skF t L 1600 a → σ' 149 15 = 0 → σ' 149 16 = σ 149 16 → K (some (vI v)) (T0 n) σ') : Rn 190 0 [some (vR 149), none] [] (T0 n) σ K := by
  have r2 := h.2.1
  have k1 := (skF_in (t := t) (L := L) 1600 a a0 a1 (by omega)).1
  unfold numG at hG
  refine x190a h ha a0 a1 h0 hw (fun y1 y2 σ1 f1 f2 f3 f4 f5 => ?_) (fun y => ?_)
  · have R1 := rf0_ok h f1
    generalize skF t L 1600 a = s at *
    obtain ⟨c1, c2, c3, c4', c5⟩ := hG
    have b0 := y2
    unfold dgt at b0
    refine x190s R1 f2 f3 (by omega) (by omega) (by omega) (by omega) f4 (by omega) (by omega) y2 (fun σ2 g1 g2 g3 g4 g5 => ?_)
    have R2 := rf0_ok R1 g1
    rcases c5 with ⟨rfl, rfl⟩ | ⟨d1, rfl, rfl⟩ | ⟨d1, d2', rfl, rfl⟩
    · rw [show 10 * 0 + bt t L s - 48 = bt t L s - 48 by omega]
      refine x190e R2 g2 g3 g4 c4' (fun _ => ?_) (fun w => by omega)
      exact hK σ2 (rf0_tr f1 g1) g2 g3 g4 (by rw [g5, f5])
    · rw [show 10 * 0 + bt t L s - 48 = bt t L s - 48 by omega]
      have b1 := d1
      unfold dgt at b1
      refine x190s R2 g2 g3 (by omega) (by omega) (by omega) (by omega) g4 (by omega) (by omega) d1 (fun σ3 k1 k2 k3 k4 k5 => ?_)
      rw [show s + 1 + 1 = s + 2 by omega] at k2
      refine x190e (rf0_ok R2 k1) k2 k3 k4 c4' (fun _ => ?_) (fun w => by omega)
      exact hK σ3 (rf0_tr (rf0_tr f1 g1) k1) k2 k3 k4 (by rw [k5, g5, f5])
    · rw [show 10 * 0 + bt t L s - 48 = bt t L s - 48 by omega]
      have b1 := d1
      unfold dgt at b1
      refine x190s R2 g2 g3 (by omega) (by omega) (by omega) (by omega) g4 (by omega) (by omega) d1 (fun σ3 k1 k2 k3 k4 k5 => ?_)
      rw [show s + 1 + 1 = s + 2 by omega] at k2
      have b2 := d2'
      unfold dgt at b2
      have R3 := rf0_ok R2 k1
      refine x190s R3 k2 k3 (by omega) (by omega) (by omega) (by omega) k4 (by omega) (by omega) d2' (fun σ4 m1 m2 m3 m4 m5 => ?_)
      rw [show s + 2 + 1 = s + 3 by omega] at m2
      refine x190e (rf0_ok R3 m1) m2 m3 m4 c4' (fun _ => ?_) (fun w => by omega)
      exact hK σ4 (rf0_tr (rf0_tr (rf0_tr f1 g1) k1) m1) m2 m3 m4 (by rw [m5, k5, g5, f5])
  · rcases y with y | y
    · exact absurd y hG.1
    · exact absurd hG.2.1 y
theorem x190b (h : rOk σ t L) {a k p : Int} (ha : σ 149 13 = a) (a0 : 0 ≤ a) (a1 : a ≤ L) (h0 : σ 149 15 = 0) (hw : nP t L a) (hB : numB t L a k p) (hK : ∀ σ' v, rf0 σ σ' → σ' 149 15 = k → σ' 149 16 = p → K (some (vI v)) (T0 n) σ') : Rn 190 0 [some (vR 149), none] [] (T0 n) σ K := by
  have r2 := h.2.1
  have k1 := (skF_in (t := t) (L := L) 1600 a a0 a1 (by omega)).1
  unfold numB at hB
  refine x190a h ha a0 a1 h0 hw (fun y1 y2 σ1 f1 f2 f3 f4 f5 => ?_) (fun y σ1 f1 f2 f3 => ?_)
  · have R1 := rf0_ok h f1
    generalize skF t L 1600 a = s at *
    have b0 := y2
    unfold dgt at b0
    rcases hB with ⟨c1, _, _⟩ | ⟨c1, c2, d1, d2', c3⟩
    · rcases c1 with c1 | c1
      · exact absurd c1 y1
      · exact absurd y2 c1
    have b1 := d1
    have b2 := d2'
    unfold dgt at b1 b2
    refine x190s R1 f2 f3 (by omega) (by omega) (by omega) (by omega) f4 (by omega) (by omega) y2 (fun σ2 g1 g2 g3 g4 g5 => ?_)
    have R2 := rf0_ok R1 g1
    rw [show 10 * 0 + bt t L s - 48 = bt t L s - 48 by omega]
    refine x190s R2 g2 g3 (by omega) (by omega) (by omega) (by omega) g4 (by omega) (by omega) d1 (fun σ3 k1 k2 k3 k4 k5 => ?_)
    rw [show s + 1 + 1 = s + 2 by omega] at k2
    have R3 := rf0_ok R2 k1
    refine x190s R3 k2 k3 (by omega) (by omega) (by omega) (by omega) k4 (by omega) (by omega) d2' (fun σ4 m1 m2 m3 m4 m5 => ?_)
    rw [show s + 2 + 1 = s + 3 by omega] at m2
    have R4 := rf0_ok R3 m1
    have fc := rf0_tr (rf0_tr (rf0_tr f1 g1) k1) m1
    rcases c3 with ⟨d3, rfl, rfl⟩ | ⟨d3, w, rfl, rfl⟩
    · exact x190q R4 m2 m3 (by omega) (by omega) m4 (by omega) (by omega) d3 (fun σ5 v' p1 p2 p3 => hK σ5 v' (rf0_tr fc p1) p2 p3)
    · exact x190e R4 m2 m3 m4 d3 (fun w2 => by omega) (fun _ σ5 p1 p2 p3 => hK σ5 _ (rf0_tr fc p1) p2 p3)
  · rcases hB with ⟨_, rfl, rfl⟩ | ⟨c1, c2, _⟩
    · exact hK σ1 0 f1 f2 f3
    · rcases y with y | y
      · exact absurd y c1
      · exact absurd c2 y
end SB
