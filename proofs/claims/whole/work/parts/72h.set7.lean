/-! a text: words, numbers: pure, and the class -/
def alL : List Int → Prop
  | [] => True
  | c :: w => (97 ≤ c ∧ c ≤ 122) ∧ alL w
theorem spJ_len {t : Int → Int} {L : Int} : ∀ (w : List Int) (k : Nat) (a : Int), alL w → 0 ≤ a → a ≤ L → L ≤ a + k → spJ t L w a = true → ltF t L k a = a + w.length := by
  intro w
  induction w with
  | nil =>
    intro k a _ a0 a1 a2 h
    unfold spJ at h
    rw [decide_eq_true_eq] at h
    rw [List.length_nil, show a + ((0 : Nat) : Int) = a by omega]
    cases k with
    | zero => rfl
    | succ k => unfold ltF; rw [if_neg h]
  | cons c w ih =>
    intro k a al a0 a1 a2 h
    unfold spJ at h
    rw [Bool.and_eq_true, decide_eq_true_eq] at h
    have sm : sml (bt t L a) := by rw [h.1]; exact al.1
    have aL : a < L := by
      apply Classical.byContradiction
      intro z
      rw [bt_out (by omega)] at sm
      unfold sml at sm; omega
    cases k with
    | zero => omega
    | succ k =>
      unfold ltF
      rw [if_pos sm, ih k (a + 1) al.2 (by omega) (by omega) (by omega) h.2, List.length_cons]
      omega
theorem spJ_uni {t : Int → Int} {L : Int} : ∀ (w v : List Int) (a : Int), alL w → alL v → spJ t L w a = true → spJ t L v a = true → w = v := by
  intro w
  induction w with
  | nil =>
    intro v a _ av h1 h2
    cases v with
    | nil => rfl
    | cons c v =>
      unfold spJ at h1 h2
      rw [decide_eq_true_eq] at h1
      rw [Bool.and_eq_true, decide_eq_true_eq] at h2
      exact absurd (by rw [h2.1]; exact av.1) h1
  | cons c w ih =>
    intro v a aw av h1 h2
    cases v with
    | nil =>
      unfold spJ at h1 h2
      rw [decide_eq_true_eq] at h2
      rw [Bool.and_eq_true, decide_eq_true_eq] at h1
      exact absurd (by rw [h1.1]; exact aw.1) h2
    | cons d v =>
      unfold spJ at h1 h2
      rw [Bool.and_eq_true, decide_eq_true_eq] at h1 h2
      rw [ih v (a + 1) aw.2 av.2 h1.2 h2.2, ← h1.1, ← h2.1]
theorem str_al {j : Nat} (h : j < 7) : alL (sx_str j) := by
  have : ∀ j : Fin 7, alL (sx_str j.1) := by
    intro ⟨j, hj⟩
    match j, hj with
    | 0, _ => exact ⟨by decide, by decide, by decide, trivial⟩
    | 1, _ => exact ⟨by decide, by decide, trivial⟩
    | 2, _ => exact ⟨by decide, by decide, by decide, trivial⟩
    | 3, _ => exact ⟨by decide, by decide, by decide, by decide, trivial⟩
    | 4, _ => exact ⟨by decide, by decide, by decide, by decide, trivial⟩
    | 5, _ => exact ⟨by decide, by decide, by decide, by decide, by decide, trivial⟩
    | 6, _ => exact ⟨by decide, by decide, trivial⟩
  exact this ⟨j, h⟩
theorem str_inj {i j : Nat} (hi : i < 7) (hj : j < 7) (h : sx_str i = sx_str j) : i = j := by
  have : ∀ i j : Fin 7, sx_str i.1 = sx_str j.1 → i.1 = j.1 := by decide
  exact this ⟨i, hi⟩ ⟨j, hj⟩ h
theorem str_1 {j : Nat} (h : j < 7) : 1 ≤ (sx_str j).length ∧ (sx_str j).length ≤ 5 := by
  have : ∀ j : Fin 7, 1 ≤ (sx_str j.1).length ∧ (sx_str j.1).length ≤ 5 := by decide
  exact this ⟨j, h⟩
theorem own_cs (t : Int → Int) (L s : Int) : (∃ i : Nat, i < 7 ∧ spJ t L (sx_str i) s = true ∧ ownP t L s = i) ∨ ((∀ i : Nat, i < 7 → ¬ spJ t L (sx_str i) s = true) ∧ ownP t L s = -1) := by
  unfold ownP
  by_cases e0 : spJ t L (sx_str 0) s = true
  · rw [if_pos e0]; exact Or.inl ⟨0, by decide, e0, rfl⟩
  rw [if_neg e0]
  by_cases e1 : spJ t L (sx_str 1) s = true
  · rw [if_pos e1]; exact Or.inl ⟨1, by decide, e1, rfl⟩
  rw [if_neg e1]
  by_cases e2 : spJ t L (sx_str 2) s = true
  · rw [if_pos e2]; exact Or.inl ⟨2, by decide, e2, rfl⟩
  rw [if_neg e2]
  by_cases e3 : spJ t L (sx_str 3) s = true
  · rw [if_pos e3]; exact Or.inl ⟨3, by decide, e3, rfl⟩
  rw [if_neg e3]
  by_cases e4 : spJ t L (sx_str 4) s = true
  · rw [if_pos e4]; exact Or.inl ⟨4, by decide, e4, rfl⟩
  rw [if_neg e4]
  by_cases e5 : spJ t L (sx_str 5) s = true
  · rw [if_pos e5]; exact Or.inl ⟨5, by decide, e5, rfl⟩
  rw [if_neg e5]
  by_cases e6 : spJ t L (sx_str 6) s = true
  · rw [if_pos e6]; exact Or.inl ⟨6, by decide, e6, rfl⟩
  rw [if_neg e6]
  refine Or.inr ⟨fun i hi => ?_, rfl⟩
  match i, hi with
  | 0, _ => exact e0
  | 1, _ => exact e1
  | 2, _ => exact e2
  | 3, _ => exact e3
  | 4, _ => exact e4
  | 5, _ => exact e5
  | 6, _ => exact e6
theorem own_iff {t : Int → Int} {L s : Int} {j : Nat} (hj : j < 7) : ownP t L s = j ↔ spJ t L (sx_str j) s = true := by
  rcases own_cs t L s with ⟨i, hi, h1, h2⟩ | ⟨h1, h2⟩
  · rw [h2]
    constructor
    · intro z
      have : i = j := by omega
      rw [← this]; exact h1
    · intro z
      rw [str_inj hi hj (spJ_uni _ _ s (str_al hi) (str_al hj) h1 z)]
  · rw [h2]
    exact ⟨fun z => by omega, fun z => absurd z (h1 j hj)⟩
theorem spJ_sml {t : Int → Int} {L s : Int} {j : Nat} (hj : j < 7) (h : spJ t L (sx_str j) s = true) : sml (bt t L s) := by
  have a := str_al hj
  have l := (str_1 hj).1
  generalize sx_str j = w at *
  cases w with
  | nil => simp at l
  | cons c w =>
    unfold spJ at h
    rw [Bool.and_eq_true, decide_eq_true_eq] at h
    rw [h.1]; exact a.1
theorem skF_skF {t : Int → Int} {L : Int} {k : Nat} {s : Int} (h : ¬ blk (bt t L s)) : skF t L k s = s := by
  cases k with
  | zero => rfl
  | succ k => unfold skF; rw [if_neg h]
/-- a number at a: its value, its end; or what is wrong, where -/
def numG (t : Int → Int) (L a v e : Int) : Prop := skF t L 1600 a ≠ a ∧ dgt (bt t L (skF t L 1600 a)) ∧ (0 ≤ v ∧ v ≤ 255) ∧ ¬ dgt (bt t L e) ∧ ((e = skF t L 1600 a + 1 ∧ v = bt t L (skF t L 1600 a) - 48) ∨ (dgt (bt t L (skF t L 1600 a + 1)) ∧ e = skF t L 1600 a + 2 ∧ v = 10 * (bt t L (skF t L 1600 a) - 48) + bt t L (skF t L 1600 a + 1) - 48) ∨ (dgt (bt t L (skF t L 1600 a + 1)) ∧ dgt (bt t L (skF t L 1600 a + 2)) ∧ e = skF t L 1600 a + 3 ∧ v = 10 * (10 * (bt t L (skF t L 1600 a) - 48) + bt t L (skF t L 1600 a + 1) - 48) + bt t L (skF t L 1600 a + 2) - 48))
def numB (t : Int → Int) (L a k p : Int) : Prop := ((skF t L 1600 a = a ∨ ¬ dgt (bt t L (skF t L 1600 a))) ∧ k = 1 ∧ p = skF t L 1600 a) ∨ (skF t L 1600 a ≠ a ∧ dgt (bt t L (skF t L 1600 a)) ∧ dgt (bt t L (skF t L 1600 a + 1)) ∧ dgt (bt t L (skF t L 1600 a + 2)) ∧ ((dgt (bt t L (skF t L 1600 a + 3)) ∧ k = 1 ∧ p = skF t L 1600 a + 3) ∨ (¬ dgt (bt t L (skF t L 1600 a + 3)) ∧ 255 < 10 * (10 * (bt t L (skF t L 1600 a) - 48) + bt t L (skF t L 1600 a + 1) - 48) + bt t L (skF t L 1600 a + 2) - 48 ∧ k = 2 ∧ p = skF t L 1600 a)))
/-- only the text's fields -/
def c4 (σ σ' : sxS) : Prop := ∀ q, q ≠ 4 → σ' q = σ q
theorem c4_tp {σ σ' : sxS} {t : Int → Int} {L : Int} (h : tpOk σ t L) (hc : c4 σ σ') : tpOk σ' t L := by
  unfold tpOk at h ⊢
  rw [hc 2 (by decide), hc 3 (by decide)]
  exact h
theorem bt_dg {t : Int → Int} {L i : Int} (h : dgt (bt t L i)) (h0 : 0 ≤ i) : i < L := by
  apply Classical.byContradiction
  intro z
  rw [bt_out (by omega)] at h
  unfold dgt at h; omega
theorem bt_sm {t : Int → Int} {L i : Int} (h : sml (bt t L i)) (h0 : 0 ≤ i) : i < L := by
  apply Classical.byContradiction
  intro z
  rw [bt_out (by omega)] at h
  unfold sml at h; omega
section S7
variable {n : Nat} {σ : sxS} {K : Option sxV → sxT → sxS → Prop} {t : Int → Int} {L : Int}
theorem x28 (h : tpOk σ t L) {a : Int} (ha : σ 4 7 = a) (a0 : 0 ≤ a) (a1 : a ≤ 1600) : Rn 28 0 [some (vR 4)] [] (T0 n) σ K ↔ K (some (vI (b2i (ownP t L a ≠ -1)))) (T0 n) σ := by
  refine Rn_iff fun K hK => ?_
  have w0 := fun K => x21 (n := n) (σ := σ) h (o := 1000001) (by omega) (by omega) ha a0 a1 (W := sx_str 0) rfl (by decide) K
  have w1 := fun K => x21 (n := n) (σ := σ) h (o := 1000002) (by omega) (by omega) ha a0 a1 (W := sx_str 1) rfl (by decide) K
  have w2 := fun K => x21 (n := n) (σ := σ) h (o := 1000003) (by omega) (by omega) ha a0 a1 (W := sx_str 2) rfl (by decide) K
  have w3 := fun K => x21 (n := n) (σ := σ) h (o := 1000004) (by omega) (by omega) ha a0 a1 (W := sx_str 3) rfl (by decide) K
  have w4 := fun K => x21 (n := n) (σ := σ) h (o := 1000005) (by omega) (by omega) ha a0 a1 (W := sx_str 4) rfl (by decide) K
  have w5 := fun K => x21 (n := n) (σ := σ) h (o := 1000006) (by omega) (by omega) ha a0 a1 (W := sx_str 5) rfl (by decide) K
  have w6 := fun K => x21 (n := n) (σ := σ) h (o := 1000007) (by omega) (by omega) ha a0 a1 (W := sx_str 6) rfl (by decide) K
  rcases own_cs t L a with ⟨i, hi, h1, h2⟩ | ⟨h1, h2⟩
  · rw [b2i_t (by rw [h2]; omega)] at hK
    simp only [s28_0, s28_1, s28_3, s28_6, s28_9, s28_10, s28_12, s28_15, s28_18, s28_19, s28_21, s28_24, s28_27, s28_28, s28_30, s28_33, s28_36, s28_37, s28_39, s28_42, s28_45, s28_46, s28_48, s28_51, s28_54, s28_55, s28_57, s28_60, s28_63, s28_64, s28_67, s28_68, Int.reduceToNat, Int.reducePow, Nat.reducePow, Int.reduceLE, Int.reduceLT, Int.reduceNeg, Int.reduceEq, Int.reduceNe, Int.reduceAdd, Int.reduceSub, Int.reduceMul, and_self, sx_push, tf, List.length_cons, List.length_nil, Option.some.injEq, exists_eq_left', Nat.reduceAdd, Nat.reduceLeDiff, true_and, and_true, true_or, or_true, Int.zero_add, Nat.zero_le, eq_self, ne_eq, not_true_eq_false, not_false_eq_true, false_implies, true_implies, implies_true, b2i_0, b2i_1, b2i_01, up_sc, sc_at, sc_sc, ite_true, ite_false, if_true, if_false, Nat.reduceEqDiff, reduceIte, w0, w1, w2, w3, w4, w5, w6]
    match i, hi, h1 with
    | 0, _, h1 =>
      simp only [h1, Int.reduceToNat, Int.reducePow, Nat.reducePow, Int.reduceLE, Int.reduceLT, Int.reduceNeg, Int.reduceEq, Int.reduceNe, Int.reduceAdd, Int.reduceSub, Int.reduceMul, and_self, sx_push, tf, List.length_cons, List.length_nil, Option.some.injEq, exists_eq_left', Nat.reduceAdd, Nat.reduceLeDiff, true_and, and_true, true_or, or_true, Int.zero_add, Nat.zero_le, eq_self, ne_eq, not_true_eq_false, not_false_eq_true, false_implies, true_implies, implies_true, b2i_0, b2i_1, b2i_01, up_sc, sc_at, sc_sc, ite_true, ite_false, if_true, if_false, Nat.reduceEqDiff, reduceIte]
      try repeat' (first | intro _ | refine And.intro ?_ ?_)
      all_goals first | exact hK | (exfalso; contradiction)
    | 1, _, h1 =>
      simp only [h1, Int.reduceToNat, Int.reducePow, Nat.reducePow, Int.reduceLE, Int.reduceLT, Int.reduceNeg, Int.reduceEq, Int.reduceNe, Int.reduceAdd, Int.reduceSub, Int.reduceMul, and_self, sx_push, tf, List.length_cons, List.length_nil, Option.some.injEq, exists_eq_left', Nat.reduceAdd, Nat.reduceLeDiff, true_and, and_true, true_or, or_true, Int.zero_add, Nat.zero_le, eq_self, ne_eq, not_true_eq_false, not_false_eq_true, false_implies, true_implies, implies_true, b2i_0, b2i_1, b2i_01, up_sc, sc_at, sc_sc, ite_true, ite_false, if_true, if_false, Nat.reduceEqDiff, reduceIte]
      try repeat' (first | intro _ | refine And.intro ?_ ?_)
      all_goals first | exact hK | (exfalso; contradiction)
    | 2, _, h1 =>
      simp only [h1, Int.reduceToNat, Int.reducePow, Nat.reducePow, Int.reduceLE, Int.reduceLT, Int.reduceNeg, Int.reduceEq, Int.reduceNe, Int.reduceAdd, Int.reduceSub, Int.reduceMul, and_self, sx_push, tf, List.length_cons, List.length_nil, Option.some.injEq, exists_eq_left', Nat.reduceAdd, Nat.reduceLeDiff, true_and, and_true, true_or, or_true, Int.zero_add, Nat.zero_le, eq_self, ne_eq, not_true_eq_false, not_false_eq_true, false_implies, true_implies, implies_true, b2i_0, b2i_1, b2i_01, up_sc, sc_at, sc_sc, ite_true, ite_false, if_true, if_false, Nat.reduceEqDiff, reduceIte]
      try repeat' (first | intro _ | refine And.intro ?_ ?_)
      all_goals first | exact hK | (exfalso; contradiction)
    | 3, _, h1 =>
      simp only [h1, Int.reduceToNat, Int.reducePow, Nat.reducePow, Int.reduceLE, Int.reduceLT, Int.reduceNeg, Int.reduceEq, Int.reduceNe, Int.reduceAdd, Int.reduceSub, Int.reduceMul, and_self, sx_push, tf, List.length_cons, List.length_nil, Option.some.injEq, exists_eq_left', Nat.reduceAdd, Nat.reduceLeDiff, true_and, and_true, true_or, or_true, Int.zero_add, Nat.zero_le, eq_self, ne_eq, not_true_eq_false, not_false_eq_true, false_implies, true_implies, implies_true, b2i_0, b2i_1, b2i_01, up_sc, sc_at, sc_sc, ite_true, ite_false, if_true, if_false, Nat.reduceEqDiff, reduceIte]
      try repeat' (first | intro _ | refine And.intro ?_ ?_)
      all_goals first | exact hK | (exfalso; contradiction)
    | 4, _, h1 =>
      simp only [h1, Int.reduceToNat, Int.reducePow, Nat.reducePow, Int.reduceLE, Int.reduceLT, Int.reduceNeg, Int.reduceEq, Int.reduceNe, Int.reduceAdd, Int.reduceSub, Int.reduceMul, and_self, sx_push, tf, List.length_cons, List.length_nil, Option.some.injEq, exists_eq_left', Nat.reduceAdd, Nat.reduceLeDiff, true_and, and_true, true_or, or_true, Int.zero_add, Nat.zero_le, eq_self, ne_eq, not_true_eq_false, not_false_eq_true, false_implies, true_implies, implies_true, b2i_0, b2i_1, b2i_01, up_sc, sc_at, sc_sc, ite_true, ite_false, if_true, if_false, Nat.reduceEqDiff, reduceIte]
      try repeat' (first | intro _ | refine And.intro ?_ ?_)
      all_goals first | exact hK | (exfalso; contradiction)
    | 5, _, h1 =>
      simp only [h1, Int.reduceToNat, Int.reducePow, Nat.reducePow, Int.reduceLE, Int.reduceLT, Int.reduceNeg, Int.reduceEq, Int.reduceNe, Int.reduceAdd, Int.reduceSub, Int.reduceMul, and_self, sx_push, tf, List.length_cons, List.length_nil, Option.some.injEq, exists_eq_left', Nat.reduceAdd, Nat.reduceLeDiff, true_and, and_true, true_or, or_true, Int.zero_add, Nat.zero_le, eq_self, ne_eq, not_true_eq_false, not_false_eq_true, false_implies, true_implies, implies_true, b2i_0, b2i_1, b2i_01, up_sc, sc_at, sc_sc, ite_true, ite_false, if_true, if_false, Nat.reduceEqDiff, reduceIte]
      try repeat' (first | intro _ | refine And.intro ?_ ?_)
      all_goals first | exact hK | (exfalso; contradiction)
    | 6, _, h1 =>
      simp only [h1, Int.reduceToNat, Int.reducePow, Nat.reducePow, Int.reduceLE, Int.reduceLT, Int.reduceNeg, Int.reduceEq, Int.reduceNe, Int.reduceAdd, Int.reduceSub, Int.reduceMul, and_self, sx_push, tf, List.length_cons, List.length_nil, Option.some.injEq, exists_eq_left', Nat.reduceAdd, Nat.reduceLeDiff, true_and, and_true, true_or, or_true, Int.zero_add, Nat.zero_le, eq_self, ne_eq, not_true_eq_false, not_false_eq_true, false_implies, true_implies, implies_true, b2i_0, b2i_1, b2i_01, up_sc, sc_at, sc_sc, ite_true, ite_false, if_true, if_false, Nat.reduceEqDiff, reduceIte]
      try repeat' (first | intro _ | refine And.intro ?_ ?_)
      all_goals first | exact hK | (exfalso; contradiction)
  · rw [b2i_f (fun z => z h2)] at hK
    simp only [s28_0, s28_1, s28_3, s28_6, s28_9, s28_10, s28_12, s28_15, s28_18, s28_19, s28_21, s28_24, s28_27, s28_28, s28_30, s28_33, s28_36, s28_37, s28_39, s28_42, s28_45, s28_46, s28_48, s28_51, s28_54, s28_55, s28_57, s28_60, s28_63, s28_64, s28_67, s28_68, Int.reduceToNat, Int.reducePow, Nat.reducePow, Int.reduceLE, Int.reduceLT, Int.reduceNeg, Int.reduceEq, Int.reduceNe, Int.reduceAdd, Int.reduceSub, Int.reduceMul, and_self, sx_push, tf, List.length_cons, List.length_nil, Option.some.injEq, exists_eq_left', Nat.reduceAdd, Nat.reduceLeDiff, true_and, and_true, true_or, or_true, Int.zero_add, Nat.zero_le, eq_self, ne_eq, not_true_eq_false, not_false_eq_true, false_implies, true_implies, implies_true, b2i_0, b2i_1, b2i_01, up_sc, sc_at, sc_sc, ite_true, ite_false, if_true, if_false, Nat.reduceEqDiff, reduceIte, w0, w1, w2, w3, w4, w5, w6, h1 0 (by decide), h1 1 (by decide), h1 2 (by decide), h1 3 (by decide), h1 4 (by decide), h1 5 (by decide), h1 6 (by decide)]
    try repeat' (first | intro _ | refine And.intro ?_ ?_)
    all_goals first | exact hK | (exfalso; contradiction)
theorem x29 {c v : Int} {o : Nat} (ho : o = 5 ∨ o = 6) (hc : σ 4 4 = c) (c1 : c ≤ 40) (hK1 : (∃ i, 0 ≤ i ∧ i < c ∧ σ o i = v) → K (some (vI 1)) (T0 n) σ) (hK0 : (∀ i, 0 ≤ i → i < c → σ o i ≠ v) → K (some (vI 0)) (T0 n) σ) : ∀ (k : Nat) (i : Int), i + k = 40 → 0 ≤ i → (∀ j, 0 ≤ j → j < i → j < c → σ o j ≠ v) → Rn 29 2 [some (vR 4), some (vR o), some (vI v), some (vI i)] [] (T0 n) σ K := by
  intro k
  induction k with
  | zero =>
    intro i hi i0 hj
    have hK := hK0 (fun j j0 j1 => hj j j0 (by omega) j1)
    rw [s29_2]
    rcases ho with rfl | rfl
    all_goals
      simp only [s29_3, s29_4, s29_7, s29_10, s29_11, s29_12, s29_13, s29_31, s29_32, Int.reduceToNat, Int.reducePow, Nat.reducePow, Int.reduceLE, Int.reduceLT, Int.reduceNeg, Int.reduceEq, Int.reduceNe, Int.reduceAdd, Int.reduceSub, Int.reduceMul, and_self, sx_push, tf, List.length_cons, List.length_nil, Option.some.injEq, exists_eq_left', Nat.reduceAdd, Nat.reduceLeDiff, true_and, and_true, true_or, or_true, Int.zero_add, Nat.zero_le, eq_self, ne_eq, not_true_eq_false, not_false_eq_true, false_implies, true_implies, implies_true, b2i_0, b2i_1, b2i_01, up_sc, sc_at, sc_sc, ite_true, ite_false, if_true, if_false, Nat.reduceEqDiff, reduceIte, hc]
      repeat' (first | intro _ | refine And.intro ?_ ?_)
      all_goals first | omega | exact hK
  | succ k ih =>
    intro i hi i0 hj
    rw [s29_2]
    by_cases z : i < c
    · by_cases y : σ o i = v
      · have hK := hK1 ⟨i, i0, z, y⟩
        rcases ho with rfl | rfl
        all_goals
          simp only [s29_3, s29_4, s29_7, s29_10, s29_11, s29_12, s29_13, s29_16, s29_17, s29_18, s29_19, s29_20, s29_23, s29_24, Int.reduceToNat, Int.reducePow, Nat.reducePow, Int.reduceLE, Int.reduceLT, Int.reduceNeg, Int.reduceEq, Int.reduceNe, Int.reduceAdd, Int.reduceSub, Int.reduceMul, and_self, sx_push, tf, List.length_cons, List.length_nil, Option.some.injEq, exists_eq_left', Nat.reduceAdd, Nat.reduceLeDiff, true_and, and_true, true_or, or_true, Int.zero_add, Nat.zero_le, eq_self, ne_eq, not_true_eq_false, not_false_eq_true, false_implies, true_implies, implies_true, b2i_0, b2i_1, b2i_01, up_sc, sc_at, sc_sc, ite_true, ite_false, if_true, if_false, Nat.reduceEqDiff, reduceIte, hc]
          repeat' (first | intro _ | refine And.intro ?_ ?_)
          all_goals first | omega | exact hK
      · have go := ih (i + 1) (by omega) (by omega) (fun j j0 j1 j2 => by
          by_cases q : j = i
          · rw [q]; exact y
          · exact hj j j0 (by omega) j2)
        rcases ho with rfl | rfl
        all_goals
          simp only [s29_3, s29_4, s29_7, s29_10, s29_11, s29_12, s29_13, s29_16, s29_17, s29_18, s29_19, s29_20, s29_25, s29_28, Int.reduceToNat, Int.reducePow, Nat.reducePow, Int.reduceLE, Int.reduceLT, Int.reduceNeg, Int.reduceEq, Int.reduceNe, Int.reduceAdd, Int.reduceSub, Int.reduceMul, and_self, sx_push, tf, List.length_cons, List.length_nil, Option.some.injEq, exists_eq_left', Nat.reduceAdd, Nat.reduceLeDiff, true_and, and_true, true_or, or_true, Int.zero_add, Nat.zero_le, eq_self, ne_eq, not_true_eq_false, not_false_eq_true, false_implies, true_implies, implies_true, b2i_0, b2i_1, b2i_01, up_sc, sc_at, sc_sc, ite_true, ite_false, if_true, if_false, Nat.reduceEqDiff, reduceIte, hc]
          repeat' (first | intro _ | refine And.intro ?_ ?_)
          all_goals first | omega | exact go
    · have hK := hK0 (fun j j0 j1 => hj j j0 (by omega) j1)
      rcases ho with rfl | rfl
      all_goals
        simp only [s29_3, s29_4, s29_7, s29_31, s29_32, Int.reduceToNat, Int.reducePow, Nat.reducePow, Int.reduceLE, Int.reduceLT, Int.reduceNeg, Int.reduceEq, Int.reduceNe, Int.reduceAdd, Int.reduceSub, Int.reduceMul, and_self, sx_push, tf, List.length_cons, List.length_nil, Option.some.injEq, exists_eq_left', Nat.reduceAdd, Nat.reduceLeDiff, true_and, and_true, true_or, or_true, Int.zero_add, Nat.zero_le, eq_self, ne_eq, not_true_eq_false, not_false_eq_true, false_implies, true_implies, implies_true, b2i_0, b2i_1, b2i_01, up_sc, sc_at, sc_sc, ite_true, ite_false, if_true, if_false, Nat.reduceEqDiff, reduceIte, hc]
        repeat' (first | intro _ | refine And.intro ?_ ?_)
        all_goals first | omega | exact hK
theorem x31s (h : tpOk σ t L) {v i x : Int} {u : Option sxV} (hx : σ 4 7 = x) (x0 : 0 ≤ x) (i0 : 0 ≤ i) (i1 : i < 3) (v0 : 0 ≤ v) (v1 : v ≤ 99) (hd : dgt (bt t L x)) (hK : ∀ σ', c4 σ σ' → (∀ j, j ≠ 7 → σ' 4 j = σ 4 j) → σ' 4 7 = x + 1 → Rn 31 58 [some (vR 4), u, some (vI (10 * v + bt t L x - 48)), some (vI (i + 1))] [] (T0 n) σ' K) : Rn 31 58 [some (vR 4), u, some (vI v), some (vI i)] [] (T0 n) σ K := by
  have xL := bt_dg hd x0
  have h2 := h.2.1
  have go := hK (sc σ 4 (up1 (σ 4) 7 (x + 1))) (fun q hq => by rw [sc_at, if_neg hq]) (fun j hj => by rw [sc_at, if_pos rfl, up1_n hj]) (by rw [sc_at, if_pos rfl, up1_s])
  unfold dgt at hd
  rw [s31_58]
  simp only [s31_59, s31_60, s31_63, s31_64, s31_67, s31_68, s31_71, s31_74, s31_77, s31_80, s31_82, s31_83, s31_84, s31_85, s31_88, s31_89, s31_92, s31_95, s31_96, s31_98, s31_99, s31_100, s31_101, s31_102, s31_105, s31_106, s31_107, s31_110, s31_113, Int.reduceToNat, Int.reducePow, Nat.reducePow, Int.reduceLE, Int.reduceLT, Int.reduceNeg, Int.reduceEq, Int.reduceNe, Int.reduceAdd, Int.reduceSub, Int.reduceMul, and_self, sx_push, tf, List.length_cons, List.length_nil, Option.some.injEq, exists_eq_left', Nat.reduceAdd, Nat.reduceLeDiff, true_and, and_true, true_or, or_true, Int.zero_add, Nat.zero_le, eq_self, ne_eq, not_true_eq_false, not_false_eq_true, false_implies, true_implies, implies_true, b2i_0, b2i_1, b2i_01, up_sc, sc_at, sc_sc, ite_true, ite_false, if_true, if_false, Nat.reduceEqDiff, reduceIte, x20b h, x32, hx]
  repeat' (first | intro _ | refine And.intro ?_ ?_)
  all_goals first | omega | exact go
theorem x31e (h : tpOk σ t L) {v i x : Int} {u : Option sxV} (hx : σ 4 7 = x) (hd : i = 3 ∨ ¬ dgt (bt t L x)) (hK : Rn 31 116 [some (vR 4), u, some (vI v), some (vI i)] [] (T0 n) σ K) : Rn 31 58 [some (vR 4), u, some (vI v), some (vI i)] [] (T0 n) σ K := by
  unfold dgt at hd
  rw [s31_58]
  simp only [s31_59, s31_60, s31_63, s31_64, s31_67, s31_68, s31_71, s31_74, s31_77, Int.reduceToNat, Int.reducePow, Nat.reducePow, Int.reduceLE, Int.reduceLT, Int.reduceNeg, Int.reduceEq, Int.reduceNe, Int.reduceAdd, Int.reduceSub, Int.reduceMul, and_self, sx_push, tf, List.length_cons, List.length_nil, Option.some.injEq, exists_eq_left', Nat.reduceAdd, Nat.reduceLeDiff, true_and, and_true, true_or, or_true, Int.zero_add, Nat.zero_le, eq_self, ne_eq, not_true_eq_false, not_false_eq_true, false_implies, true_implies, implies_true, b2i_0, b2i_1, b2i_01, up_sc, sc_at, sc_sc, ite_true, ite_false, if_true, if_false, Nat.reduceEqDiff, reduceIte, x20b h, x32, hx]
  repeat' (first | intro _ | refine And.intro ?_ ?_)
  all_goals first | omega | exact hK
theorem x31f (h : tpOk σ t L) {v x s : Int} {u w : Option sxV} (hx : σ 4 7 = x) (hs : σ 4 8 = s) (hK1 : dgt (bt t L x) → ∀ σ', c4 σ σ' → (∀ j, j ≠ 5 → j ≠ 6 → σ' 4 j = σ 4 j) → σ' 4 5 = 1 → σ' 4 6 = x → K (some (vI (-1))) (T0 n) σ') (hK2 : ¬ dgt (bt t L x) → 255 < v → ∀ σ', c4 σ σ' → (∀ j, j ≠ 5 → j ≠ 6 → σ' 4 j = σ 4 j) → σ' 4 5 = 2 → σ' 4 6 = s → K (some (vI (-1))) (T0 n) σ') (hK0 : ¬ dgt (bt t L x) → v ≤ 255 → K (some (vI v)) (T0 n) σ) : Rn 31 116 [some (vR 4), u, some (vI v), w] [] (T0 n) σ K := by
  have fr4 : ∀ k a, c4 σ (sc σ 4 (up1 (up1 (σ 4) 5 k) 6 a)) ∧ (∀ j, j ≠ 5 → j ≠ 6 → sc σ 4 (up1 (up1 (σ 4) 5 k) 6 a) 4 j = σ 4 j) ∧ sc σ 4 (up1 (up1 (σ 4) 5 k) 6 a) 4 5 = k ∧ sc σ 4 (up1 (up1 (σ 4) 5 k) 6 a) 4 6 = a := fun k a => ⟨fun q hq => by rw [sc_at, if_neg hq], fun j j5 j6 => by rw [sc_at, if_pos rfl, up1_n j6, up1_n j5], by rw [sc_at, if_pos rfl, up1_n (by decide), up1_s], by rw [sc_at, if_pos rfl, up1_s]⟩
  by_cases e : dgt (bt t L x)
  · obtain ⟨f1, f2, f3, f4⟩ := fr4 1 x
    have hK := hK1 e _ f1 f2 f3 f4
    unfold dgt at e
    simp only [s31_116, s31_117, s31_120, s31_121, s31_124, s31_127, s31_130, s31_133, s31_134, s31_135, s31_136, s31_139, s31_142, s31_143, s31_144, Int.reduceToNat, Int.reducePow, Nat.reducePow, Int.reduceLE, Int.reduceLT, Int.reduceNeg, Int.reduceEq, Int.reduceNe, Int.reduceAdd, Int.reduceSub, Int.reduceMul, and_self, sx_push, tf, List.length_cons, List.length_nil, Option.some.injEq, exists_eq_left', Nat.reduceAdd, Nat.reduceLeDiff, true_and, and_true, true_or, or_true, Int.zero_add, Nat.zero_le, eq_self, ne_eq, not_true_eq_false, not_false_eq_true, false_implies, true_implies, implies_true, b2i_0, b2i_1, b2i_01, up_sc, sc_at, sc_sc, ite_true, ite_false, if_true, if_false, Nat.reduceEqDiff, reduceIte, x20b h, x32, x23, hx]
    repeat' (first | intro _ | refine And.intro ?_ ?_)
    all_goals first | omega | exact hK
  · by_cases y : v ≤ 255
    · have hK := hK0 e y
      unfold dgt at e
      simp only [s31_116, s31_117, s31_120, s31_121, s31_124, s31_127, s31_130, s31_145, s31_146, s31_149, s31_164, s31_165, Int.reduceToNat, Int.reducePow, Nat.reducePow, Int.reduceLE, Int.reduceLT, Int.reduceNeg, Int.reduceEq, Int.reduceNe, Int.reduceAdd, Int.reduceSub, Int.reduceMul, and_self, sx_push, tf, List.length_cons, List.length_nil, Option.some.injEq, exists_eq_left', Nat.reduceAdd, Nat.reduceLeDiff, true_and, and_true, true_or, or_true, Int.zero_add, Nat.zero_le, eq_self, ne_eq, not_true_eq_false, not_false_eq_true, false_implies, true_implies, implies_true, b2i_0, b2i_1, b2i_01, up_sc, sc_at, sc_sc, ite_true, ite_false, if_true, if_false, Nat.reduceEqDiff, reduceIte, x20b h, x32, hx]
      repeat' (first | intro _ | refine And.intro ?_ ?_)
      all_goals first | omega | exact hK
    · obtain ⟨f1, f2, f3, f4⟩ := fr4 2 s
      have hK := hK2 e (by omega) _ f1 f2 f3 f4
      unfold dgt at e
      simp only [s31_116, s31_117, s31_120, s31_121, s31_124, s31_127, s31_130, s31_145, s31_146, s31_149, s31_152, s31_153, s31_154, s31_155, s31_158, s31_161, s31_162, s31_163, Int.reduceToNat, Int.reducePow, Nat.reducePow, Int.reduceLE, Int.reduceLT, Int.reduceNeg, Int.reduceEq, Int.reduceNe, Int.reduceAdd, Int.reduceSub, Int.reduceMul, and_self, sx_push, tf, List.length_cons, List.length_nil, Option.some.injEq, exists_eq_left', Nat.reduceAdd, Nat.reduceLeDiff, true_and, and_true, true_or, or_true, Int.zero_add, Nat.zero_le, eq_self, ne_eq, not_true_eq_false, not_false_eq_true, false_implies, true_implies, implies_true, b2i_0, b2i_1, b2i_01, up_sc, sc_at, sc_sc, ite_true, ite_false, if_true, if_false, Nat.reduceEqDiff, reduceIte, x20b h, x32, x23, hx, hs]
      repeat' (first | intro _ | refine And.intro ?_ ?_)
      all_goals first | omega | exact hK
theorem c4_tr {σ σ' σ'' : sxS} (h1 : c4 σ σ') (h2 : c4 σ' σ'') : c4 σ σ'' := fun q hq => by rw [h2 q hq, h1 q hq]
theorem x31 (h : tpOk σ t L) {a : Int} (ha : σ 4 7 = a) (a0 : 0 ≤ a) (a1 : a ≤ L) (hK1 : ∀ σ' v e, numG t L a v e → c4 σ σ' → (∀ j, j ≠ 7 → j ≠ 8 → σ' 4 j = σ 4 j) → σ' 4 7 = e → σ' 4 8 = skF t L 1600 a → K (some (vI v)) (T0 n) σ') (hK0 : ∀ σ' k p, numB t L a k p → c4 σ σ' → (∀ j, j ≠ 5 → j ≠ 6 → j ≠ 7 → j ≠ 8 → σ' 4 j = σ 4 j) → σ' 4 5 = k → σ' 4 6 = p → K (some (vI (-1))) (T0 n) σ') : Rn 31 0 [some (vR 4), none, none, none] [] (T0 n) σ K := by
  have h2 := h.2.1
  have sk := skF_in (t := t) (L := L) 1600 a a0 a1 (by omega)
  simp only [s31_0, s31_1, s31_4, s31_5, s31_6, Int.reduceToNat, Int.reducePow, Nat.reducePow, Int.reduceLE, Int.reduceLT, Int.reduceNeg, Int.reduceEq, Int.reduceNe, Int.reduceAdd, Int.reduceSub, Int.reduceMul, and_self, sx_push, tf, List.length_cons, List.length_nil, Option.some.injEq, exists_eq_left', Nat.reduceAdd, Nat.reduceLeDiff, true_and, and_true, true_or, or_true, Int.zero_add, Nat.zero_le, eq_self, ne_eq, not_true_eq_false, not_false_eq_true, false_implies, true_implies, implies_true, b2i_0, b2i_1, b2i_01, up_sc, sc_at, sc_sc, ite_true, ite_false, if_true, if_false, Nat.reduceEqDiff, reduceIte, ha]
  refine x19 1600 a σ h ha a0 a1 (by omega) ?_
  unfold numG at hK1
  unfold numB at hK0
  generalize skF t L 1600 a = s at *
  have u7 : up1 (σ 4) 7 s 7 = s := up1_s _ _ _
  have hT := tpOk_4 (g := up1 (up1 (σ 4) 7 s) 8 s) h
  have g7 : up1 (up1 (σ 4) 7 s) 8 s 7 = s := by rw [up1_n (by decide), up1_s]
  have hb := fun i K => x20b (n := n) hT (i := i) K
  by_cases e : s ≠ a ∧ dgt (bt t L s)
  · have fb : ∀ σ1, σ1 = sc σ 4 (up1 (up1 (σ 4) 7 s) 8 s) → Rn 31 58 [some (vR 4), some (vI a), some (vI 0), some (vI 0)] [] (T0 n) σ1 K := by
      intro σ1 h1
      have t1 : tpOk σ1 t L := by rw [h1]; exact hT
      have f1 : c4 σ σ1 := by rw [h1]; exact fun q hq => by rw [sc_at, if_neg hq]
      have f2 : ∀ j, j ≠ 7 → j ≠ 8 → σ1 4 j = σ 4 j := by rw [h1]; exact fun j j7 j8 => by rw [sc_at, if_pos rfl, up1_n j8, up1_n j7]
      have f3 : σ1 4 7 = s := by rw [h1, sc_at, if_pos rfl, up1_n (by decide), up1_s]
      have f4 : σ1 4 8 = s := by rw [h1, sc_at, if_pos rfl, up1_s]
      have b0 := e.2
      unfold dgt at b0
      refine x31s t1 f3 (by omega) (by omega) (by omega) (by omega) (by omega) e.2 (fun σ2 g1 g2 g3 => ?_)
      have t2 := c4_tp t1 g1
      by_cases d1 : dgt (bt t L (s + 1))
      · have b1 := d1
        unfold dgt at b1
        refine x31s t2 g3 (by omega) (by omega) (by omega) (by omega) (by omega) d1 (fun σ3 k1 k2 k3 => ?_)
        have t3 := c4_tp t2 k1
        rw [show s + 1 + 1 = s + 2 by omega] at k3
        by_cases d2' : dgt (bt t L (s + 2))
        · have b2 := d2'
          unfold dgt at b2
          refine x31s t3 k3 (by omega) (by omega) (by omega) (by omega) (by omega) d2' (fun σ4 m1 m2 m3 => ?_)
          have t4 := c4_tp t3 m1
          rw [show s + 2 + 1 = s + 3 by omega] at m3
          refine x31e t4 m3 (Or.inl (by omega)) ?_
          have fc : c4 σ σ4 := c4_tr (c4_tr (c4_tr f1 g1) k1) m1
          have fj : ∀ j, j ≠ 7 → j ≠ 8 → σ4 4 j = σ 4 j := fun j j7 j8 => by rw [m2 j j7, k2 j j7, g2 j j7, f2 j j7 j8]
          have f8 : σ4 4 8 = s := by rw [m2 8 (by decide), k2 8 (by decide), g2 8 (by decide), f4]
          refine x31f t4 m3 f8 (fun d3 σ5 p1 p2 p3 p4 => ?_) (fun d3 y σ5 p1 p2 p3 p4 => ?_) (fun d3 y => ?_)
          · exact hK0 σ5 1 (s + 3) (Or.inr ⟨e.1, e.2, d1, d2', Or.inl ⟨d3, rfl, rfl⟩⟩) (c4_tr fc p1) (fun j j5 j6 j7 j8 => by rw [p2 j j5 j6, fj j j7 j8]) p3 p4
          · exact hK0 σ5 2 s (Or.inr ⟨e.1, e.2, d1, d2', Or.inr ⟨d3, by omega, rfl, rfl⟩⟩) (c4_tr fc p1) (fun j j5 j6 j7 j8 => by rw [p2 j j5 j6, fj j j7 j8]) p3 p4
          · exact hK1 σ4 _ (s + 3) ⟨e.1, e.2, by omega, d3, Or.inr (Or.inr ⟨d1, d2', rfl, by omega⟩)⟩ fc fj m3 f8
        · refine x31e t3 k3 (Or.inr d2') ?_
          have fc : c4 σ σ3 := c4_tr (c4_tr f1 g1) k1
          have fj : ∀ j, j ≠ 7 → j ≠ 8 → σ3 4 j = σ 4 j := fun j j7 j8 => by rw [k2 j j7, g2 j j7, f2 j j7 j8]
          have f8 : σ3 4 8 = s := by rw [k2 8 (by decide), g2 8 (by decide), f4]
          refine x31f t3 k3 f8 (fun d3 => absurd d3 d2') (fun d3 y => by omega) (fun d3 y => ?_)
          exact hK1 σ3 _ (s + 2) ⟨e.1, e.2, by omega, d3, Or.inr (Or.inl ⟨d1, rfl, by omega⟩)⟩ fc fj k3 f8
      · refine x31e t2 g3 (Or.inr d1) ?_
        have fc : c4 σ σ2 := c4_tr f1 g1
        have fj : ∀ j, j ≠ 7 → j ≠ 8 → σ2 4 j = σ 4 j := fun j j7 j8 => by rw [g2 j j7, f2 j j7 j8]
        have f8 : σ2 4 8 = s := by rw [g2 8 (by decide), f4]
        refine x31f t2 g3 f8 (fun d3 => absurd d3 d1) (fun d3 y => by omega) (fun d3 y => ?_)
        exact hK1 σ2 _ (s + 1) ⟨e.1, e.2, by omega, d3, Or.inl ⟨rfl, by omega⟩⟩ fc fj g3 f8
    have go := fb _ rfl
    have e1 := e.1
    have e2 := e.2
    unfold dgt at e2
    simp only [s31_9, s31_10, s31_11, s31_14, s31_17, s31_18, s31_21, s31_22, s31_25, s31_26, s31_29, s31_30, s31_33, s31_36, s31_39, s31_54, s31_55, s31_56, s31_57, Int.reduceToNat, Int.reducePow, Nat.reducePow, Int.reduceLE, Int.reduceLT, Int.reduceNeg, Int.reduceEq, Int.reduceNe, Int.reduceAdd, Int.reduceSub, Int.reduceMul, and_self, sx_push, tf, List.length_cons, List.length_nil, Option.some.injEq, exists_eq_left', Nat.reduceAdd, Nat.reduceLeDiff, true_and, and_true, true_or, or_true, Int.zero_add, Nat.zero_le, eq_self, ne_eq, not_true_eq_false, not_false_eq_true, false_implies, true_implies, implies_true, b2i_0, b2i_1, b2i_01, up_sc, sc_at, sc_sc, ite_true, ite_false, if_true, if_false, Nat.reduceEqDiff, reduceIte, u7, g7, hb, x32]
    repeat' (first | intro _ | refine And.intro ?_ ?_)
    all_goals first | omega | exact go
  · have hK := hK0 (sc σ 4 (up1 (up1 (up1 (up1 (σ 4) 7 s) 8 s) 5 1) 6 s)) 1 s (Or.inl ⟨by
      by_cases y : s = a
      · exact Or.inl y
      · exact Or.inr (fun z => e ⟨y, z⟩), rfl, rfl⟩) (fun q hq => by rw [sc_at, if_neg hq]) (fun j j5 j6 j7 j8 => by rw [sc_at, if_pos rfl, up1_n j6, up1_n j5, up1_n j8, up1_n j7]) (by rw [sc_at, if_pos rfl, up1_n (by decide), up1_s]) (by rw [sc_at, if_pos rfl, up1_s])
    unfold dgt at e
    simp only [s31_9, s31_10, s31_11, s31_14, s31_17, s31_18, s31_21, s31_22, s31_25, s31_26, s31_29, s31_30, s31_33, s31_36, s31_39, s31_42, s31_43, s31_44, s31_45, s31_48, s31_51, s31_52, s31_53, Int.reduceToNat, Int.reducePow, Nat.reducePow, Int.reduceLE, Int.reduceLT, Int.reduceNeg, Int.reduceEq, Int.reduceNe, Int.reduceAdd, Int.reduceSub, Int.reduceMul, and_self, sx_push, tf, List.length_cons, List.length_nil, Option.some.injEq, exists_eq_left', Nat.reduceAdd, Nat.reduceLeDiff, true_and, and_true, true_or, or_true, Int.zero_add, Nat.zero_le, eq_self, ne_eq, not_true_eq_false, not_false_eq_true, false_implies, true_implies, implies_true, b2i_0, b2i_1, b2i_01, up_sc, sc_at, sc_sc, ite_true, ite_false, if_true, if_false, Nat.reduceEqDiff, reduceIte, u7, g7, hb, x32, x23]
    repeat' (first | intro _ | refine And.intro ?_ ?_)
    all_goals first | omega | exact hK
end S7
