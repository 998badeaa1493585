/-! a text: own words: the reference -/
theorem ltF_in {t : Int → Int} {L : Int} : ∀ (k : Nat) (a : Int), 0 ≤ a → a ≤ L → L ≤ a + k → (a ≤ ltF t L k a ∧ ltF t L k a ≤ L) ∧ (∀ j, a ≤ j → j < ltF t L k a → sml (bt t L j)) ∧ ¬ sml (bt t L (ltF t L k a)) := by
  intro k
  induction k with
  | zero =>
    intro a a0 a1 a2
    refine ⟨⟨Int.le_refl a, a1⟩, fun j z1 z2 => ?_, ?_⟩
    · change j < a at z2; omega
    · show ¬ sml (bt t L a)
      rw [bt_out (by omega)]; unfold sml; omega
  | succ k ih =>
    intro a a0 a1 a2
    unfold ltF
    by_cases e : sml (bt t L a)
    · rw [if_pos e]
      have al : a < L := by
        apply Classical.byContradiction
        intro z
        rw [bt_out (by omega)] at e
        unfold sml at e; omega
      obtain ⟨i1, i2, i3⟩ := ih (a + 1) (by omega) (by omega) (by omega)
      refine ⟨by omega, fun j z1 z2 => ?_, i3⟩
      by_cases z : j = a
      · rw [z]; exact e
      · exact i2 j (by omega) z2
    · rw [if_neg e]
      exact ⟨⟨Int.le_refl a, a1⟩, fun j z1 z2 => by omega, e⟩
def owA (g : Int → Int) : List Int → Int → Prop
  | [], j => g j = 0
  | c :: w, j => g j = c - 96 ∧ (97 ≤ c ∧ c ≤ 122) ∧ owA g w (j + 1)
def ownP (t : Int → Int) (L s : Int) : Int := if spJ t L (sx_str 0) s = true then 0 else if spJ t L (sx_str 1) s = true then 1 else if spJ t L (sx_str 2) s = true then 2 else if spJ t L (sx_str 3) s = true then 3 else if spJ t L (sx_str 4) s = true then 4 else if spJ t L (sx_str 5) s = true then 5 else if spJ t L (sx_str 6) s = true then 6 else -1
def rOk (σ : sxS) (t : Int → Int) (L : Int) : Prop := σ 149 12 = L ∧ (0 ≤ L ∧ L ≤ 1600) ∧ (∀ j, 0 ≤ j → j < L → σ 154 j = t j) ∧ ∀ k, 0 ≤ k → k < 30 → σ 156 k = ownW.getD k.toNat 0
section S6
variable {n : Nat} {σ : sxS} {K : Option sxV → sxT → sxS → Prop} {t : Int → Int} {L s e : Int}
theorem x184i (hf : σ 149 14 = s) (he : σ 149 13 = e) (hL : L ≤ 1600) (ht : ∀ j, 0 ≤ j → j < L → σ 154 j = t j) (s0 : 0 ≤ s) (eL : e ≤ L) (hl : ∀ j, s ≤ j → j < e → sml (bt t L j)) (hn : ¬ sml (bt t L e)) {m k : Int} (k0 : 0 ≤ k) : ∀ (w : List Int) (i : Int), 0 ≤ i → s + i ≤ e → owA (σ 156) w (k + i) → k + i + w.length < 30 → (spJ t L w (s + i) = true → K (some (vI m)) (T0 n) σ) → (spJ t L w (s + i) = false → ∀ u, Rn 184 93 [some (vR 149), some (vI k), some (vI m), some (vI u)] [] (T0 n) σ K) → Rn 184 12 [some (vR 149), some (vI k), some (vI m), some (vI i)] [] (T0 n) σ K := by
  intro w
  induction w with
  | nil =>
    intro i i0 ie ow wl h1 h0
    have ow' : σ 156 (k + i) = 0 := ow
    unfold spJ at h1 h0
    rw [decide_eq_true_eq] at h1
    rw [decide_eq_false_iff_not] at h0
    rw [List.length_nil] at wl
    rw [s184_12]
    by_cases z : s + i = e
    · have hK := h1 (by rw [z]; exact hn)
      simp only [s184_13, s184_16, s184_17, s184_18, s184_19, s184_20, s184_67, s184_68, s184_71, s184_72, s184_73, s184_74, s184_75, s184_78, s184_79, s184_82, s184_83, s184_84, s184_85, s184_88, s184_91, s184_92, Int.reduceToNat, Int.reducePow, Nat.reducePow, Int.reduceLE, Int.reduceLT, Int.reduceNeg, Int.reduceEq, Int.reduceNe, Int.reduceAdd, Int.reduceSub, Int.reduceMul, and_self, sx_push, tf, List.length_cons, List.length_nil, Option.some.injEq, exists_eq_left', Nat.reduceAdd, Nat.reduceLeDiff, true_and, and_true, true_or, or_true, Int.zero_add, Nat.zero_le, eq_self, ne_eq, not_true_eq_false, not_false_eq_true, false_implies, true_implies, implies_true, b2i_0, b2i_1, b2i_01, up_sc, sc_at, sc_sc, ite_true, ite_false, if_true, if_false, Nat.reduceEqDiff, reduceIte, hf, he, ow']
      repeat' (first | intro _ | refine And.intro ?_ ?_)
      all_goals first | omega | exact hK
    · have hK := h0 (fun y => y (hl (s + i) (by omega) (by omega))) i
      simp only [s184_13, s184_16, s184_17, s184_18, s184_19, s184_20, s184_67, s184_68, s184_71, s184_72, s184_73, s184_74, s184_75, s184_78, s184_79, s184_82, s184_83, s184_84, s184_85, s184_88, s184_91, s184_92, Int.reduceToNat, Int.reducePow, Nat.reducePow, Int.reduceLE, Int.reduceLT, Int.reduceNeg, Int.reduceEq, Int.reduceNe, Int.reduceAdd, Int.reduceSub, Int.reduceMul, and_self, sx_push, tf, List.length_cons, List.length_nil, Option.some.injEq, exists_eq_left', Nat.reduceAdd, Nat.reduceLeDiff, true_and, and_true, true_or, or_true, Int.zero_add, Nat.zero_le, eq_self, ne_eq, not_true_eq_false, not_false_eq_true, false_implies, true_implies, implies_true, b2i_0, b2i_1, b2i_01, up_sc, sc_at, sc_sc, ite_true, ite_false, if_true, if_false, Nat.reduceEqDiff, reduceIte, hf, he, ow']
      repeat' (first | intro _ | refine And.intro ?_ ?_)
      all_goals first | omega | exact hK
  | cons c w ih =>
    intro i i0 ie ow wl h1 h0
    obtain ⟨o1, o2, o3⟩ := ow
    rw [List.length_cons] at wl
    unfold spJ at h1 h0
    rw [s184_12]
    by_cases z : s + i = e
    · have hb : bt t L (s + i) ≠ c := fun y => hn (by rw [← z, y]; exact o2)
      have hK := h0 (by rw [decide_eq_false hb, Bool.false_and]) i
      simp only [s184_13, s184_16, s184_17, s184_18, s184_19, s184_20, s184_23, s184_24, s184_27, s184_28, s184_29, s184_30, s184_33, s184_67, s184_68, s184_71, s184_72, s184_73, s184_74, s184_75, Int.reduceToNat, Int.reducePow, Nat.reducePow, Int.reduceLE, Int.reduceLT, Int.reduceNeg, Int.reduceEq, Int.reduceNe, Int.reduceAdd, Int.reduceSub, Int.reduceMul, and_self, sx_push, tf, List.length_cons, List.length_nil, Option.some.injEq, exists_eq_left', Nat.reduceAdd, Nat.reduceLeDiff, true_and, and_true, true_or, or_true, Int.zero_add, Nat.zero_le, eq_self, ne_eq, not_true_eq_false, not_false_eq_true, false_implies, true_implies, implies_true, b2i_0, b2i_1, b2i_01, up_sc, sc_at, sc_sc, ite_true, ite_false, if_true, if_false, Nat.reduceEqDiff, reduceIte, hf, he, o1]
      repeat' (first | intro _ | refine And.intro ?_ ?_)
      all_goals first | omega | exact hK
    · have hs := hl (s + i) (by omega) (by omega)
      have hb : bt t L (s + i) = t (s + i) := bt_in (by omega) (by omega)
      have h154 := ht (s + i) (by omega) (by omega)
      rw [hb] at hs h1 h0
      unfold sml at hs
      by_cases y : t (s + i) = c
      · have go := ih (i + 1) (by omega) (by omega) (by rw [← Int.add_assoc]; exact o3) (by omega) (fun q => h1 (by rw [decide_eq_true y, Bool.true_and, Int.add_assoc]; exact q)) (fun q => h0 (by rw [decide_eq_true y, Bool.true_and, Int.add_assoc]; exact q))
        simp only [s184_13, s184_16, s184_17, s184_18, s184_19, s184_20, s184_23, s184_24, s184_27, s184_28, s184_29, s184_30, s184_33, s184_36, s184_37, s184_40, s184_41, s184_44, s184_45, s184_46, s184_47, s184_49, s184_50, s184_51, s184_54, s184_55, s184_56, s184_57, s184_58, s184_61, s184_64, Int.reduceToNat, Int.reducePow, Nat.reducePow, Int.reduceLE, Int.reduceLT, Int.reduceNeg, Int.reduceEq, Int.reduceNe, Int.reduceAdd, Int.reduceSub, Int.reduceMul, and_self, sx_push, tf, List.length_cons, List.length_nil, Option.some.injEq, exists_eq_left', Nat.reduceAdd, Nat.reduceLeDiff, true_and, and_true, true_or, or_true, Int.zero_add, Nat.zero_le, eq_self, ne_eq, not_true_eq_false, not_false_eq_true, false_implies, true_implies, implies_true, b2i_0, b2i_1, b2i_01, up_sc, sc_at, sc_sc, ite_true, ite_false, if_true, if_false, Nat.reduceEqDiff, reduceIte, hf, he, o1, h154]
        repeat' (first | intro _ | refine And.intro ?_ ?_)
        all_goals first | omega | exact go
      · have hK := h0 (by rw [decide_eq_false y, Bool.false_and]) i
        simp only [s184_13, s184_16, s184_17, s184_18, s184_19, s184_20, s184_23, s184_24, s184_27, s184_28, s184_29, s184_30, s184_33, s184_36, s184_37, s184_40, s184_41, s184_44, s184_45, s184_46, s184_47, s184_49, s184_50, s184_51, s184_54, s184_55, s184_56, s184_57, s184_58, s184_67, s184_68, s184_71, s184_72, s184_73, s184_74, s184_75, Int.reduceToNat, Int.reducePow, Nat.reducePow, Int.reduceLE, Int.reduceLT, Int.reduceNeg, Int.reduceEq, Int.reduceNe, Int.reduceAdd, Int.reduceSub, Int.reduceMul, and_self, sx_push, tf, List.length_cons, List.length_nil, Option.some.injEq, exists_eq_left', Nat.reduceAdd, Nat.reduceLeDiff, true_and, and_true, true_or, or_true, Int.zero_add, Nat.zero_le, eq_self, ne_eq, not_true_eq_false, not_false_eq_true, false_implies, true_implies, implies_true, b2i_0, b2i_1, b2i_01, up_sc, sc_at, sc_sc, ite_true, ite_false, if_true, if_false, Nat.reduceEqDiff, reduceIte, hf, he, o1, h154]
        repeat' (first | intro _ | refine And.intro ?_ ?_)
        all_goals first | omega | exact hK
theorem x184s {m i : Int} (m0 : 0 ≤ m) (m6 : m ≤ 6) : ∀ (w : List Int) (k : Int), 0 ≤ k → owA (σ 156) w k → k + w.length < 30 → Rn 184 4 [some (vR 149), some (vI (k + w.length + 1)), some (vI (m + 1)), some (vI i)] [] (T0 n) σ K → Rn 184 93 [some (vR 149), some (vI k), some (vI m), some (vI i)] [] (T0 n) σ K := by
  intro w
  induction w with
  | nil =>
    intro k k0 ow wl hK
    have ow' : σ 156 k = 0 := ow
    rw [List.length_nil] at wl hK
    rw [show k + ((0 : Nat) : Int) + 1 = k + 1 by omega] at hK
    rw [s184_93]
    simp only [s184_94, s184_97, s184_98, s184_99, s184_108, s184_111, s184_114, Int.reduceToNat, Int.reducePow, Nat.reducePow, Int.reduceLE, Int.reduceLT, Int.reduceNeg, Int.reduceEq, Int.reduceNe, Int.reduceAdd, Int.reduceSub, Int.reduceMul, and_self, sx_push, tf, List.length_cons, List.length_nil, Option.some.injEq, exists_eq_left', Nat.reduceAdd, Nat.reduceLeDiff, true_and, and_true, true_or, or_true, Int.zero_add, Nat.zero_le, eq_self, ne_eq, not_true_eq_false, not_false_eq_true, false_implies, true_implies, implies_true, b2i_0, b2i_1, b2i_01, up_sc, sc_at, sc_sc, ite_true, ite_false, if_true, if_false, Nat.reduceEqDiff, reduceIte, ow']
    repeat' (first | intro _ | refine And.intro ?_ ?_)
    all_goals first | omega | exact hK
  | cons c w ih =>
    intro k k0 ow wl hK
    obtain ⟨o1, o2, o3⟩ := ow
    rw [List.length_cons] at wl hK
    rw [show k + ((w.length + 1 : Nat) : Int) + 1 = k + 1 + w.length + 1 by omega] at hK
    have go := ih (k + 1) (by omega) o3 (by omega) hK
    rw [s184_93]
    simp only [s184_94, s184_97, s184_98, s184_99, s184_102, s184_105, Int.reduceToNat, Int.reducePow, Nat.reducePow, Int.reduceLE, Int.reduceLT, Int.reduceNeg, Int.reduceEq, Int.reduceNe, Int.reduceAdd, Int.reduceSub, Int.reduceMul, and_self, sx_push, tf, List.length_cons, List.length_nil, Option.some.injEq, exists_eq_left', Nat.reduceAdd, Nat.reduceLeDiff, true_and, and_true, true_or, or_true, Int.zero_add, Nat.zero_le, eq_self, ne_eq, not_true_eq_false, not_false_eq_true, false_implies, true_implies, implies_true, b2i_0, b2i_1, b2i_01, up_sc, sc_at, sc_sc, ite_true, ite_false, if_true, if_false, Nat.reduceEqDiff, reduceIte, o1]
    repeat' (first | intro _ | refine And.intro ?_ ?_)
    all_goals first | omega | exact go
theorem x184w (hf : σ 149 14 = s) (he : σ 149 13 = e) (hL : L ≤ 1600) (ht : ∀ j, 0 ≤ j → j < L → σ 154 j = t j) (s0 : 0 ≤ s) (se : s ≤ e) (eL : e ≤ L) (hl : ∀ j, s ≤ j → j < e → sml (bt t L j)) (hn : ¬ sml (bt t L e)) {m k m' k' : Int} {W : List Int} (k0 : 0 ≤ k) (m0 : 0 ≤ m) (m6 : m ≤ 6) (ow : owA (σ 156) W k) (wl : k + W.length < 30) (hk : k + W.length + 1 = k') (hm : m + 1 = m') (h1 : spJ t L W s = true → K (some (vI m)) (T0 n) σ) (h0 : spJ t L W s = false → ∀ u, Rn 184 4 [some (vR 149), some (vI k'), some (vI m'), u] [] (T0 n) σ K) (u : Option sxV) : Rn 184 4 [some (vR 149), some (vI k), some (vI m), u] [] (T0 n) σ K := by
  have main := x184i (n := n) (K := K) hf he hL ht s0 eL hl hn (m := m) k0 W 0 (by omega) (by omega) (by rw [Int.add_zero]; exact ow) (by omega) (by rw [Int.add_zero]; exact h1) (by
    rw [Int.add_zero]
    intro z i
    exact x184s m0 m6 W k k0 ow wl (by rw [hk, hm]; exact h0 z _))
  rw [s184_4]
  simp only [s184_5, s184_7, s184_10, s184_11, Int.reduceToNat, Int.reducePow, Nat.reducePow, Int.reduceLE, Int.reduceLT, Int.reduceNeg, Int.reduceEq, Int.reduceNe, Int.reduceAdd, Int.reduceSub, Int.reduceMul, and_self, sx_push, tf, List.length_cons, List.length_nil, Option.some.injEq, exists_eq_left', Nat.reduceAdd, Nat.reduceLeDiff, true_and, and_true, true_or, or_true, Int.zero_add, Nat.zero_le, eq_self, ne_eq, not_true_eq_false, not_false_eq_true, false_implies, true_implies, implies_true, b2i_0, b2i_1, b2i_01, up_sc, sc_at, sc_sc, ite_true, ite_false, if_true, if_false, Nat.reduceEqDiff, reduceIte]
  repeat' (first | intro _ | refine And.intro ?_ ?_)
  all_goals first | omega | exact main
theorem x184 (hr : rOk σ t L) (hf : σ 149 14 = s) (he : σ 149 13 = ltF t L 1600 s) (s0 : 0 ≤ s) (s1 : s ≤ L) : Rn 184 0 [some (vR 149), none, none, none] [] (T0 n) σ K ↔ K (some (vI (ownP t L s))) (T0 n) σ := by
  refine Rn_iff fun K hK => ?_
  obtain ⟨r1, r2, r3, r4⟩ := hr
  obtain ⟨l1, l2, l3⟩ := ltF_in (t := t) (L := L) 1600 s s0 s1 (by omega)
  generalize ltF t L 1600 s = e at *
  unfold ownP at hK
  simp only [s184_0, s184_1, s184_2, s184_3, Int.reduceToNat, Int.reducePow, Nat.reducePow, Int.reduceLE, Int.reduceLT, Int.reduceNeg, Int.reduceEq, Int.reduceNe, Int.reduceAdd, Int.reduceSub, Int.reduceMul, and_self, sx_push, tf, List.length_cons, List.length_nil, Option.some.injEq, exists_eq_left', Nat.reduceAdd, Nat.reduceLeDiff, true_and, and_true, true_or, or_true, Int.zero_add, Nat.zero_le, eq_self, ne_eq, not_true_eq_false, not_false_eq_true, false_implies, true_implies, implies_true, b2i_0, b2i_1, b2i_01, up_sc, sc_at, sc_sc, ite_true, ite_false, if_true, if_false, Nat.reduceEqDiff, reduceIte]
  refine x184w (W := sx_str 0) (k := 0) (m := 0) (k' := 4) (m' := 1) hf he r2.2 r3 s0 l1.1 l1.2 l2 l3 (by omega) (by omega) (by omega) ⟨(r4 (0) (by decide) (by decide)).trans (by decide), by decide, (r4 (0 + 1) (by decide) (by decide)).trans (by decide), by decide, (r4 (0 + 1 + 1) (by decide) (by decide)).trans (by decide), by decide, (r4 (0 + 1 + 1 + 1) (by decide) (by decide)).trans (by decide)⟩ (by decide) (by decide) (by decide) (fun z => ?_) (fun z u1 => ?_) none
  · rw [if_pos z] at hK; exact hK
  rw [if_neg (by rw [z]; decide)] at hK
  refine x184w (W := sx_str 1) (k := 4) (m := 1) (k' := 7) (m' := 2) hf he r2.2 r3 s0 l1.1 l1.2 l2 l3 (by omega) (by omega) (by omega) ⟨(r4 (4) (by decide) (by decide)).trans (by decide), by decide, (r4 (4 + 1) (by decide) (by decide)).trans (by decide), by decide, (r4 (4 + 1 + 1) (by decide) (by decide)).trans (by decide)⟩ (by decide) (by decide) (by decide) (fun z => ?_) (fun z u2 => ?_) u1
  · rw [if_pos z] at hK; exact hK
  rw [if_neg (by rw [z]; decide)] at hK
  refine x184w (W := sx_str 2) (k := 7) (m := 2) (k' := 11) (m' := 3) hf he r2.2 r3 s0 l1.1 l1.2 l2 l3 (by omega) (by omega) (by omega) ⟨(r4 (7) (by decide) (by decide)).trans (by decide), by decide, (r4 (7 + 1) (by decide) (by decide)).trans (by decide), by decide, (r4 (7 + 1 + 1) (by decide) (by decide)).trans (by decide), by decide, (r4 (7 + 1 + 1 + 1) (by decide) (by decide)).trans (by decide)⟩ (by decide) (by decide) (by decide) (fun z => ?_) (fun z u3 => ?_) u2
  · rw [if_pos z] at hK; exact hK
  rw [if_neg (by rw [z]; decide)] at hK
  refine x184w (W := sx_str 3) (k := 11) (m := 3) (k' := 16) (m' := 4) hf he r2.2 r3 s0 l1.1 l1.2 l2 l3 (by omega) (by omega) (by omega) ⟨(r4 (11) (by decide) (by decide)).trans (by decide), by decide, (r4 (11 + 1) (by decide) (by decide)).trans (by decide), by decide, (r4 (11 + 1 + 1) (by decide) (by decide)).trans (by decide), by decide, (r4 (11 + 1 + 1 + 1) (by decide) (by decide)).trans (by decide), by decide, (r4 (11 + 1 + 1 + 1 + 1) (by decide) (by decide)).trans (by decide)⟩ (by decide) (by decide) (by decide) (fun z => ?_) (fun z u4 => ?_) u3
  · rw [if_pos z] at hK; exact hK
  rw [if_neg (by rw [z]; decide)] at hK
  refine x184w (W := sx_str 4) (k := 16) (m := 4) (k' := 21) (m' := 5) hf he r2.2 r3 s0 l1.1 l1.2 l2 l3 (by omega) (by omega) (by omega) ⟨(r4 (16) (by decide) (by decide)).trans (by decide), by decide, (r4 (16 + 1) (by decide) (by decide)).trans (by decide), by decide, (r4 (16 + 1 + 1) (by decide) (by decide)).trans (by decide), by decide, (r4 (16 + 1 + 1 + 1) (by decide) (by decide)).trans (by decide), by decide, (r4 (16 + 1 + 1 + 1 + 1) (by decide) (by decide)).trans (by decide)⟩ (by decide) (by decide) (by decide) (fun z => ?_) (fun z u5 => ?_) u4
  · rw [if_pos z] at hK; exact hK
  rw [if_neg (by rw [z]; decide)] at hK
  refine x184w (W := sx_str 5) (k := 21) (m := 5) (k' := 27) (m' := 6) hf he r2.2 r3 s0 l1.1 l1.2 l2 l3 (by omega) (by omega) (by omega) ⟨(r4 (21) (by decide) (by decide)).trans (by decide), by decide, (r4 (21 + 1) (by decide) (by decide)).trans (by decide), by decide, (r4 (21 + 1 + 1) (by decide) (by decide)).trans (by decide), by decide, (r4 (21 + 1 + 1 + 1) (by decide) (by decide)).trans (by decide), by decide, (r4 (21 + 1 + 1 + 1 + 1) (by decide) (by decide)).trans (by decide), by decide, (r4 (21 + 1 + 1 + 1 + 1 + 1) (by decide) (by decide)).trans (by decide)⟩ (by decide) (by decide) (by decide) (fun z => ?_) (fun z u6 => ?_) u5
  · rw [if_pos z] at hK; exact hK
  rw [if_neg (by rw [z]; decide)] at hK
  refine x184w (W := sx_str 6) (k := 27) (m := 6) (k' := 30) (m' := 7) hf he r2.2 r3 s0 l1.1 l1.2 l2 l3 (by omega) (by omega) (by omega) ⟨(r4 (27) (by decide) (by decide)).trans (by decide), by decide, (r4 (27 + 1) (by decide) (by decide)).trans (by decide), by decide, (r4 (27 + 1 + 1) (by decide) (by decide)).trans (by decide)⟩ (by decide) (by decide) (by decide) (fun z => ?_) (fun z u7 => ?_) u6
  · rw [if_pos z] at hK; exact hK
  rw [if_neg (by rw [z]; decide)] at hK
  rw [s184_4]
  simp only [s184_5, s184_7, s184_117, s184_118, Int.reduceToNat, Int.reducePow, Nat.reducePow, Int.reduceLE, Int.reduceLT, Int.reduceNeg, Int.reduceEq, Int.reduceNe, Int.reduceAdd, Int.reduceSub, Int.reduceMul, and_self, sx_push, tf, List.length_cons, List.length_nil, Option.some.injEq, exists_eq_left', Nat.reduceAdd, Nat.reduceLeDiff, true_and, and_true, true_or, or_true, Int.zero_add, Nat.zero_le, eq_self, ne_eq, not_true_eq_false, not_false_eq_true, false_implies, true_implies, implies_true, b2i_0, b2i_1, b2i_01, up_sc, sc_at, sc_sc, ite_true, ite_false, if_true, if_false, Nat.reduceEqDiff, reduceIte]
  repeat' (first | intro _ | refine And.intro ?_ ?_)
  all_goals first | omega | exact hK
end S6
