/-! points of the class held against the row of the reference -/
/-- who is there, of what level, where; the measure -/
def rL (σ : sxS) (o : Nat) (f : Int → Int) : Prop := ∀ p, 0 ≤ p → p < 40 → (f p = 1 ∧ σ (o + 2) p = f (160 + p) ∧ 0 ≤ f (160 + p) ∧ f (160 + p) ≤ 10 ∧ σ (o + 1) p = pk (f (40 + p)) (f (80 + p)) (f (120 + p)) ∧ σ o 4 = f 480) ∨ (f p = 0 ∧ σ (o + 2) p < 0)
/-- parents -/
def rP (σ : sxS) (o : Nat) (f : Int → Int) : Prop := ∀ p, 0 ≤ p → p < 40 → f p = 1 → σ (o + 3) p = f (200 + p)
/-- the root has no parent -/
def rtP (f : Int → Int) : Prop := ∀ p, 0 ≤ p → p < 40 → f p = 1 → f (160 + p) = 10 → f (200 + p) = -1
section C2
variable {n : Nat} {σ : sxS} {K : Option sxV → sxT → sxS → Prop} {o : Nat} {f : Int → Int}
theorem x49 (ho : isP o) (hr : rL σ o f) {p : Int} : Rn 49 0 [some (vR o), some (vI p)] [] (T0 n) σ K ↔ K (some (vI (b2i ((0 ≤ p ∧ p < 40) ∧ f p = 1)))) (T0 n) σ := by
  refine Rn_iff fun K hK => ?_
  simp only [s49_0, s49_1, s49_4, s49_5, s49_7, s49_10, s49_11, s49_14, s49_15, s49_16, s49_19, s49_20, s49_23, s49_24, sx_push, tf, List.length_cons, List.length_nil, Option.some.injEq, exists_eq_left', Nat.reduceAdd, Nat.reduceLeDiff, true_and, and_true, true_or, or_true, Int.zero_add, Nat.zero_le, eq_self, ne_eq, not_true_eq_false, not_false_eq_true, false_implies, true_implies, implies_true, b2i_0, b2i_1, b2i_01, up_sc, sc_at, sc_sc, ite_true, ite_false, if_true, if_false, Nat.reduceEqDiff, reduceIte, tp ho]
  by_cases h : 0 ≤ p ∧ p < 40
  · rcases hr p h.1 h.2 with ⟨c1, c2, c3, c4, c5, c6⟩ | ⟨c1, c2⟩
    · repeat' (first | intro _ | refine And.intro ?_ ?_)
      all_goals (first | exact hK | omega | (rw [b2i_t] at hK <;> first | exact hK | omega) | (rw [b2i_f] at hK <;> first | exact hK | omega) | (split at hK <;> first | exact hK | omega))
    · repeat' (first | intro _ | refine And.intro ?_ ?_)
      all_goals (first | exact hK | omega | (rw [b2i_t] at hK <;> first | exact hK | omega) | (rw [b2i_f] at hK <;> first | exact hK | omega) | (split at hK <;> first | exact hK | omega))
  · repeat' (first | intro _ | refine And.intro ?_ ?_)
    all_goals (first | exact hK | omega | (rw [b2i_t] at hK <;> first | exact hK | omega) | (rw [b2i_f] at hK <;> first | exact hK | omega) | (split at hK <;> first | exact hK | omega))
theorem x40T {p x y z : Int} (w : in8 (f (40 + p)) ∧ in8 (f (80 + p)) ∧ in8 (f (120 + p))) (hx : in8 x) (hy : in8 y) (hz : in8 z) : Rn 40 0 [some (vI (f 480)), some (vI (pk (f (40 + p)) (f (80 + p)) (f (120 + p)))), some (vI (pk x y z)), none, none, none] [] (T0 n) σ K ↔ K (some (vI (farT f p x y z))) (T0 n) σ := x40 w.1 w.2.1 w.2.2 hx hy hz
theorem x62 (ho : isP o) (hr : rL σ o f) (hw : wfc f) {p q : Int} (h0 : 0 ≤ p) (h1 : p < 40) (hp : f p = 1) (g0 : 0 ≤ q) (g1 : q < 40) (hq : f q = 1) : Rn 62 0 [some (vR o), some (vI p), some (vI q)] [] (T0 n) σ K ↔ K (some (vI (farT f p (f (40 + q)) (f (80 + q)) (f (120 + q))))) (T0 n) σ := by
  refine Rn_iff fun K hK => ?_
  rcases hr p h0 h1 with ⟨c1, c2, c3, c4, c5, c6⟩ | ⟨c1, c2⟩
  · rcases hr q g0 g1 with ⟨d1, d2, d3, d4, d5, d6⟩ | ⟨d1, d2⟩
    · simp only [s62_0, s62_1, s62_4, s62_5, s62_8, s62_9, s62_10, s62_11, s62_14, s62_15, s62_16, s62_19, sx_push, tf, List.length_cons, List.length_nil, Option.some.injEq, exists_eq_left', Nat.reduceAdd, Nat.reduceLeDiff, true_and, and_true, true_or, or_true, Int.zero_add, Nat.zero_le, eq_self, ne_eq, not_true_eq_false, not_false_eq_true, false_implies, true_implies, implies_true, b2i_0, b2i_1, b2i_01, up_sc, sc_at, sc_sc, ite_true, ite_false, if_true, if_false, Nat.reduceEqDiff, reduceIte, tp ho, c5, c6, d5, x40T (hw p h0 h1) (hw q g0 g1).1 (hw q g0 g1).2.1 (hw q g0 g1).2.2]
      repeat' (first | intro _ | refine And.intro ?_ ?_)
      all_goals first | exact hK | omega
    · omega
  · omega
theorem x42 (ho : isP o) (hr : rL σ o f) (hw : wfc f) {p x y z : Int} (hx : in8 x) (hy : in8 y) (hz : in8 z) (h0 : 0 ≤ p) (h1 : p < 40) (hp : f p = 1) : Rn 42 0 [some (vR o), some (vI p), some (vI (pk x y z))] [] (T0 n) σ K ↔ K (some (vI (farT f p x y z))) (T0 n) σ := by
  refine Rn_iff fun K hK => ?_
  rcases hr p h0 h1 with ⟨c1, c2, c3, c4, c5, c6⟩ | ⟨c1, c2⟩
  · simp only [s42_0, s42_1, s42_4, s42_5, s42_8, s42_9, s42_10, s42_11, s42_14, sx_push, tf, List.length_cons, List.length_nil, Option.some.injEq, exists_eq_left', Nat.reduceAdd, Nat.reduceLeDiff, true_and, and_true, true_or, or_true, Int.zero_add, Nat.zero_le, eq_self, ne_eq, not_true_eq_false, not_false_eq_true, false_implies, true_implies, implies_true, b2i_0, b2i_1, b2i_01, up_sc, sc_at, sc_sc, ite_true, ite_false, if_true, if_false, Nat.reduceEqDiff, reduceIte, tp ho, c5, c6, x40T (hw p h0 h1) hx hy hz]
    repeat' (first | intro _ | refine And.intro ?_ ?_)
    all_goals first | exact hK | omega
  · omega
theorem x58l (ho : isP o) (hr : rL σ o f) (hw : wfc f) {x y z : Int} (hx : in8 x) (hy : in8 y) (hz : in8 z) : ∀ (k : Nat) (p : Int), p + k = 40 → 0 ≤ p → K (some (vI (fnd (fun p => decide (f p = 1 ∧ f (40 + p) = x ∧ f (80 + p) = y ∧ f (120 + p) = z)) k p))) (T0 n) σ → Rn 58 2 [some (vR o), some (vI (pk x y z)), some (vI p)] [] (T0 n) σ K := by
  intro k
  induction k with
  | zero =>
    intro p hpk h0 hK
    rw [s58_2]
    simp only [s58_0, s58_1, s58_3, s58_5, s58_8, s58_9, s58_12, s58_13, s58_14, s58_17, s58_18, s58_21, s58_22, s58_23, s58_24, s58_27, s58_28, s58_29, s58_32, s58_35, s58_36, sx_push, tf, List.length_cons, List.length_nil, Option.some.injEq, exists_eq_left', Nat.reduceAdd, Nat.reduceLeDiff, true_and, and_true, true_or, or_true, Int.zero_add, Nat.zero_le, eq_self, ne_eq, not_true_eq_false, not_false_eq_true, false_implies, true_implies, implies_true, b2i_0, b2i_1, b2i_01, up_sc, sc_at, sc_sc, ite_true, ite_false, if_true, if_false, Nat.reduceEqDiff, reduceIte]
    repeat' (first | intro _ | refine And.intro ?_ ?_)
    all_goals first | exact hK | omega
  | succ k ih =>
    intro p hpk h0 hK
    have h1 : p < 40 := by omega
    unfold fnd at hK
    simp only [decide_eq_true_eq] at hK
    rw [s58_2]
    have pj := pk_inj (hw p h0 h1).1 (hw p h0 h1).2.1 (hw p h0 h1).2.2 hx hy hz
    rcases hr p h0 h1 with ⟨c1, c2, c3, c4, c5, c6⟩ | ⟨c1, c2⟩
    · simp only [s58_0, s58_1, s58_3, s58_5, s58_8, s58_9, s58_12, s58_13, s58_14, s58_17, s58_18, s58_21, s58_22, s58_23, s58_24, s58_27, s58_28, s58_29, s58_32, s58_35, s58_36, sx_push, tf, List.length_cons, List.length_nil, Option.some.injEq, exists_eq_left', Nat.reduceAdd, Nat.reduceLeDiff, true_and, and_true, true_or, or_true, Int.zero_add, Nat.zero_le, eq_self, ne_eq, not_true_eq_false, not_false_eq_true, false_implies, true_implies, implies_true, b2i_0, b2i_1, b2i_01, up_sc, sc_at, sc_sc, ite_true, ite_false, if_true, if_false, Nat.reduceEqDiff, reduceIte, tp ho, c2, c5, pj]
      repeat' (first | intro _ | refine And.intro ?_ ?_)
      all_goals first | omega | (split at hK <;> first | exact hK | omega | exact ih _ (by omega) (by omega) hK)
    · simp only [s58_0, s58_1, s58_3, s58_5, s58_8, s58_9, s58_12, s58_13, s58_14, s58_17, s58_18, s58_21, s58_22, s58_23, s58_24, s58_27, s58_28, s58_29, s58_32, s58_35, s58_36, sx_push, tf, List.length_cons, List.length_nil, Option.some.injEq, exists_eq_left', Nat.reduceAdd, Nat.reduceLeDiff, true_and, and_true, true_or, or_true, Int.zero_add, Nat.zero_le, eq_self, ne_eq, not_true_eq_false, not_false_eq_true, false_implies, true_implies, implies_true, b2i_0, b2i_1, b2i_01, up_sc, sc_at, sc_sc, ite_true, ite_false, if_true, if_false, Nat.reduceEqDiff, reduceIte, tp ho]
      repeat' (first | intro _ | refine And.intro ?_ ?_)
      all_goals first | omega | (split at hK <;> first | exact hK | omega | exact ih _ (by omega) (by omega) hK)
theorem x58 (ho : isP o) (hr : rL σ o f) (hw : wfc f) {x y z : Int} (hx : in8 x) (hy : in8 y) (hz : in8 z) : Rn 58 0 [some (vR o), some (vI (pk x y z)), none] [] (T0 n) σ K ↔ K (some (vI (fnd (fun p => decide (f p = 1 ∧ f (40 + p) = x ∧ f (80 + p) = y ∧ f (120 + p) = z)) 40 0))) (T0 n) σ := by
  refine Rn_iff fun K hK => ?_
  simp only [s58_0, s58_1, s58_3, s58_5, s58_8, s58_9, s58_12, s58_13, s58_14, s58_17, s58_18, s58_21, s58_22, s58_23, s58_24, s58_27, s58_28, s58_29, s58_32, s58_35, s58_36, sx_push, tf, List.length_cons, List.length_nil, Option.some.injEq, exists_eq_left', Nat.reduceAdd, Nat.reduceLeDiff, true_and, and_true, true_or, or_true, Int.zero_add, Nat.zero_le, eq_self, ne_eq, not_true_eq_false, not_false_eq_true, false_implies, true_implies, implies_true, b2i_0, b2i_1, b2i_01, up_sc, sc_at, sc_sc, ite_true, ite_false, if_true, if_false, Nat.reduceEqDiff, reduceIte]
  exact x58l ho hr hw hx hy hz 40 0 (by omega) (by omega) hK

theorem x143l (ho : isP o) (hr : rL σ o f) : ∀ (k : Nat) (p : Int), p + k = 40 → 0 ≤ p → K (some (vI (fnd (fun p => decide (f p = 0)) k p))) (T0 n) σ → Rn 143 2 [some (vR o), some (vI p)] [] (T0 n) σ K := by
  intro k
  induction k with
  | zero =>
    intro p hpk h0 hK
    rw [s143_2]
    simp only [s143_0, s143_1, s143_3, s143_5, s143_8, s143_9, s143_12, s143_13, s143_14, s143_17, s143_18, s143_19, s143_22, s143_25, s143_26, sx_push, tf, List.length_cons, List.length_nil, Option.some.injEq, exists_eq_left', Nat.reduceAdd, Nat.reduceLeDiff, true_and, and_true, true_or, or_true, Int.zero_add, Nat.zero_le, eq_self, ne_eq, not_true_eq_false, not_false_eq_true, false_implies, true_implies, implies_true, b2i_0, b2i_1, b2i_01, up_sc, sc_at, sc_sc, ite_true, ite_false, if_true, if_false, Nat.reduceEqDiff, reduceIte]
    repeat' (first | intro _ | refine And.intro ?_ ?_)
    all_goals first | exact hK | omega
  | succ k ih =>
    intro p hpk h0 hK
    have h1 : p < 40 := by omega
    unfold fnd at hK
    simp only [decide_eq_true_eq] at hK
    rw [s143_2]
    
    rcases hr p h0 h1 with ⟨c1, c2, c3, c4, c5, c6⟩ | ⟨c1, c2⟩
    · simp only [s143_0, s143_1, s143_3, s143_5, s143_8, s143_9, s143_12, s143_13, s143_14, s143_17, s143_18, s143_19, s143_22, s143_25, s143_26, sx_push, tf, List.length_cons, List.length_nil, Option.some.injEq, exists_eq_left', Nat.reduceAdd, Nat.reduceLeDiff, true_and, and_true, true_or, or_true, Int.zero_add, Nat.zero_le, eq_self, ne_eq, not_true_eq_false, not_false_eq_true, false_implies, true_implies, implies_true, b2i_0, b2i_1, b2i_01, up_sc, sc_at, sc_sc, ite_true, ite_false, if_true, if_false, Nat.reduceEqDiff, reduceIte, tp ho, c2]
      repeat' (first | intro _ | refine And.intro ?_ ?_)
      all_goals first | omega | (split at hK <;> first | exact hK | omega | exact ih _ (by omega) (by omega) hK)
    · simp only [s143_0, s143_1, s143_3, s143_5, s143_8, s143_9, s143_12, s143_13, s143_14, s143_17, s143_18, s143_19, s143_22, s143_25, s143_26, sx_push, tf, List.length_cons, List.length_nil, Option.some.injEq, exists_eq_left', Nat.reduceAdd, Nat.reduceLeDiff, true_and, and_true, true_or, or_true, Int.zero_add, Nat.zero_le, eq_self, ne_eq, not_true_eq_false, not_false_eq_true, false_implies, true_implies, implies_true, b2i_0, b2i_1, b2i_01, up_sc, sc_at, sc_sc, ite_true, ite_false, if_true, if_false, Nat.reduceEqDiff, reduceIte, tp ho]
      repeat' (first | intro _ | refine And.intro ?_ ?_)
      all_goals first | omega | (split at hK <;> first | exact hK | omega | exact ih _ (by omega) (by omega) hK)
theorem x143 (ho : isP o) (hr : rL σ o f) : Rn 143 0 [some (vR o), none] [] (T0 n) σ K ↔ K (some (vI (fnd (fun p => decide (f p = 0)) 40 0))) (T0 n) σ := by
  refine Rn_iff fun K hK => ?_
  simp only [s143_0, s143_1, s143_3, s143_5, s143_8, s143_9, s143_12, s143_13, s143_14, s143_17, s143_18, s143_19, s143_22, s143_25, s143_26, sx_push, tf, List.length_cons, List.length_nil, Option.some.injEq, exists_eq_left', Nat.reduceAdd, Nat.reduceLeDiff, true_and, and_true, true_or, or_true, Int.zero_add, Nat.zero_le, eq_self, ne_eq, not_true_eq_false, not_false_eq_true, false_implies, true_implies, implies_true, b2i_0, b2i_1, b2i_01, up_sc, sc_at, sc_sc, ite_true, ite_false, if_true, if_false, Nat.reduceEqDiff, reduceIte]
  exact x143l ho hr 40 0 (by omega) (by omega) hK

theorem x65l (ho : isP o) (hr : rL σ o f) {l : Int} (hl : 0 ≤ l) : ∀ (k : Nat) (p a : Int), p + k = 40 → 0 ≤ p → 0 ≤ a → a ≤ p → K (some (vI (cnt (fun p => decide (f p = 1 ∧ l ≤ f (160 + p))) k p a))) (T0 n) σ → Rn 65 4 [some (vR o), some (vI l), some (vI a), some (vI p)] [] (T0 n) σ K := by
  intro k
  induction k with
  | zero =>
    intro p a hpk h0 ha ha' hK
    rw [s65_4]
    simp only [s65_0, s65_1, s65_2, s65_3, s65_5, s65_7, s65_10, s65_11, s65_14, s65_15, s65_16, s65_17, s65_20, s65_23, s65_26, s65_29, s65_30, sx_push, tf, List.length_cons, List.length_nil, Option.some.injEq, exists_eq_left', Nat.reduceAdd, Nat.reduceLeDiff, true_and, and_true, true_or, or_true, Int.zero_add, Nat.zero_le, eq_self, ne_eq, not_true_eq_false, not_false_eq_true, false_implies, true_implies, implies_true, b2i_0, b2i_1, b2i_01, up_sc, sc_at, sc_sc, ite_true, ite_false, if_true, if_false, Nat.reduceEqDiff, reduceIte]
    repeat' (first | intro _ | refine And.intro ?_ ?_)
    all_goals first | exact hK | omega
  | succ k ih =>
    intro p a hpk h0 ha ha' hK
    have h1 : p < 40 := by omega
    unfold cnt at hK
    simp only [decide_eq_true_eq] at hK
    rw [s65_4]
    
    rcases hr p h0 h1 with ⟨c1, c2, c3, c4, c5, c6⟩ | ⟨c1, c2⟩
    · simp only [s65_0, s65_1, s65_2, s65_3, s65_5, s65_7, s65_10, s65_11, s65_14, s65_15, s65_16, s65_17, s65_20, s65_23, s65_26, s65_29, s65_30, sx_push, tf, List.length_cons, List.length_nil, Option.some.injEq, exists_eq_left', Nat.reduceAdd, Nat.reduceLeDiff, true_and, and_true, true_or, or_true, Int.zero_add, Nat.zero_le, eq_self, ne_eq, not_true_eq_false, not_false_eq_true, false_implies, true_implies, implies_true, b2i_0, b2i_1, b2i_01, up_sc, sc_at, sc_sc, ite_true, ite_false, if_true, if_false, Nat.reduceEqDiff, reduceIte, tp ho, c2, Int.add_zero]
      repeat' (first | intro _ | refine And.intro ?_ ?_)
      all_goals first | omega | (split at hK <;> first | exact hK | omega | exact ih _ _ (by omega) (by omega) (by omega) (by omega) hK)
    · simp only [s65_0, s65_1, s65_2, s65_3, s65_5, s65_7, s65_10, s65_11, s65_14, s65_15, s65_16, s65_17, s65_20, s65_23, s65_26, s65_29, s65_30, sx_push, tf, List.length_cons, List.length_nil, Option.some.injEq, exists_eq_left', Nat.reduceAdd, Nat.reduceLeDiff, true_and, and_true, true_or, or_true, Int.zero_add, Nat.zero_le, eq_self, ne_eq, not_true_eq_false, not_false_eq_true, false_implies, true_implies, implies_true, b2i_0, b2i_1, b2i_01, up_sc, sc_at, sc_sc, ite_true, ite_false, if_true, if_false, Nat.reduceEqDiff, reduceIte, tp ho, Int.add_zero]
      repeat' (first | intro _ | refine And.intro ?_ ?_)
      all_goals first | omega | (split at hK <;> first | exact hK | omega | exact ih _ _ (by omega) (by omega) (by omega) (by omega) hK)
theorem x65 (ho : isP o) (hr : rL σ o f) {l : Int} (hl : 0 ≤ l) : Rn 65 0 [some (vR o), some (vI l), none, none] [] (T0 n) σ K ↔ K (some (vI (cnt (fun p => decide (f p = 1 ∧ l ≤ f (160 + p))) 40 0 0))) (T0 n) σ := by
  refine Rn_iff fun K hK => ?_
  simp only [s65_0, s65_1, s65_2, s65_3, s65_5, s65_7, s65_10, s65_11, s65_14, s65_15, s65_16, s65_17, s65_20, s65_23, s65_26, s65_29, s65_30, sx_push, tf, List.length_cons, List.length_nil, Option.some.injEq, exists_eq_left', Nat.reduceAdd, Nat.reduceLeDiff, true_and, and_true, true_or, or_true, Int.zero_add, Nat.zero_le, eq_self, ne_eq, not_true_eq_false, not_false_eq_true, false_implies, true_implies, implies_true, b2i_0, b2i_1, b2i_01, up_sc, sc_at, sc_sc, ite_true, ite_false, if_true, if_false, Nat.reduceEqDiff, reduceIte]
  exact x65l ho hr hl 40 0 0 (by omega) (by omega) (by omega) (by omega) hK

theorem x54l (ho : isP o) (hr : rL σ o f) (hp : rP σ o f) (ht : rtP f) {q : Int} (hq : 0 ≤ q) : ∀ (k : Nat) (p a : Int), p + k = 40 → 0 ≤ p → 0 ≤ a → a ≤ p → K (some (vI (cnt (fun p => decide (f p = 1 ∧ f (160 + p) < 10 ∧ f (200 + p) = q)) k p a))) (T0 n) σ → Rn 54 4 [some (vR o), some (vI q), some (vI a), some (vI p)] [] (T0 n) σ K := by
  intro k
  induction k with
  | zero =>
    intro p a hpk h0 ha ha' hK
    rw [s54_4]
    simp only [s54_0, s54_1, s54_2, s54_3, s54_5, s54_7, s54_10, s54_11, s54_14, s54_15, s54_16, s54_19, s54_20, s54_23, s54_24, s54_25, s54_26, s54_29, s54_32, s54_35, s54_38, s54_39, sx_push, tf, List.length_cons, List.length_nil, Option.some.injEq, exists_eq_left', Nat.reduceAdd, Nat.reduceLeDiff, true_and, and_true, true_or, or_true, Int.zero_add, Nat.zero_le, eq_self, ne_eq, not_true_eq_false, not_false_eq_true, false_implies, true_implies, implies_true, b2i_0, b2i_1, b2i_01, up_sc, sc_at, sc_sc, ite_true, ite_false, if_true, if_false, Nat.reduceEqDiff, reduceIte]
    repeat' (first | intro _ | refine And.intro ?_ ?_)
    all_goals first | exact hK | omega
  | succ k ih =>
    intro p a hpk h0 ha ha' hK
    have h1 : p < 40 := by omega
    unfold cnt at hK
    simp only [decide_eq_true_eq] at hK
    rw [s54_4]
    have hz := ht p h0 h1
    rcases hr p h0 h1 with ⟨c1, c2, c3, c4, c5, c6⟩ | ⟨c1, c2⟩
    · simp only [s54_0, s54_1, s54_2, s54_3, s54_5, s54_7, s54_10, s54_11, s54_14, s54_15, s54_16, s54_19, s54_20, s54_23, s54_24, s54_25, s54_26, s54_29, s54_32, s54_35, s54_38, s54_39, sx_push, tf, List.length_cons, List.length_nil, Option.some.injEq, exists_eq_left', Nat.reduceAdd, Nat.reduceLeDiff, true_and, and_true, true_or, or_true, Int.zero_add, Nat.zero_le, eq_self, ne_eq, not_true_eq_false, not_false_eq_true, false_implies, true_implies, implies_true, b2i_0, b2i_1, b2i_01, up_sc, sc_at, sc_sc, ite_true, ite_false, if_true, if_false, Nat.reduceEqDiff, reduceIte, tp ho, c2, hp p h0 h1 c1, Int.add_zero]
      repeat' (first | intro _ | refine And.intro ?_ ?_)
      all_goals first | omega | (split at hK <;> first | exact hK | omega | exact ih _ _ (by omega) (by omega) (by omega) (by omega) hK)
    · simp only [s54_0, s54_1, s54_2, s54_3, s54_5, s54_7, s54_10, s54_11, s54_14, s54_15, s54_16, s54_19, s54_20, s54_23, s54_24, s54_25, s54_26, s54_29, s54_32, s54_35, s54_38, s54_39, sx_push, tf, List.length_cons, List.length_nil, Option.some.injEq, exists_eq_left', Nat.reduceAdd, Nat.reduceLeDiff, true_and, and_true, true_or, or_true, Int.zero_add, Nat.zero_le, eq_self, ne_eq, not_true_eq_false, not_false_eq_true, false_implies, true_implies, implies_true, b2i_0, b2i_1, b2i_01, up_sc, sc_at, sc_sc, ite_true, ite_false, if_true, if_false, Nat.reduceEqDiff, reduceIte, tp ho, Int.add_zero]
      repeat' (first | intro _ | refine And.intro ?_ ?_)
      all_goals first | omega | (split at hK <;> first | exact hK | omega | exact ih _ _ (by omega) (by omega) (by omega) (by omega) hK)
theorem x54 (ho : isP o) (hr : rL σ o f) (hp : rP σ o f) (ht : rtP f) {q : Int} (hq : 0 ≤ q) : Rn 54 0 [some (vR o), some (vI q), none, none] [] (T0 n) σ K ↔ K (some (vI (cnt (fun p => decide (f p = 1 ∧ f (160 + p) < 10 ∧ f (200 + p) = q)) 40 0 0))) (T0 n) σ := by
  refine Rn_iff fun K hK => ?_
  simp only [s54_0, s54_1, s54_2, s54_3, s54_5, s54_7, s54_10, s54_11, s54_14, s54_15, s54_16, s54_19, s54_20, s54_23, s54_24, s54_25, s54_26, s54_29, s54_32, s54_35, s54_38, s54_39, sx_push, tf, List.length_cons, List.length_nil, Option.some.injEq, exists_eq_left', Nat.reduceAdd, Nat.reduceLeDiff, true_and, and_true, true_or, or_true, Int.zero_add, Nat.zero_le, eq_self, ne_eq, not_true_eq_false, not_false_eq_true, false_implies, true_implies, implies_true, b2i_0, b2i_1, b2i_01, up_sc, sc_at, sc_sc, ite_true, ite_false, if_true, if_false, Nat.reduceEqDiff, reduceIte]
  exact x54l ho hr hp ht hq 40 0 0 (by omega) (by omega) (by omega) (by omega) hK

theorem x96l (ho : isP o) (hr : rL σ o f) (hw : wfc f) {x y z d : Int} (hx : in8 x) (hy : in8 y) (hz : in8 z) : ∀ (k : Nat) (p a : Int), p + k = 40 → 0 ≤ p → 0 ≤ a → a ≤ p → K (some (vI (cnt (fun p => decide (f p = 1 ∧ farT f p x y z ≤ d)) k p a))) (T0 n) σ → Rn 96 5 [some (vR o), some (vI (pk x y z)), some (vI d), some (vI a), some (vI p)] [] (T0 n) σ K := by
  intro k
  induction k with
  | zero =>
    intro p a hpk h0 ha ha' hK
    rw [s96_5]
    simp only [s96_0, s96_1, s96_2, s96_3, s96_7, s96_9, s96_12, s96_13, s96_16, s96_18, s96_19, s96_22, s96_23, s96_25, s96_26, s96_29, s96_30, s96_33, s96_36, s96_39, s96_42, s96_43, sx_push, tf, List.length_cons, List.length_nil, Option.some.injEq, exists_eq_left', Nat.reduceAdd, Nat.reduceLeDiff, true_and, and_true, true_or, or_true, Int.zero_add, Nat.zero_le, eq_self, ne_eq, not_true_eq_false, not_false_eq_true, false_implies, true_implies, implies_true, b2i_0, b2i_1, b2i_01, up_sc, sc_at, sc_sc, ite_true, ite_false, if_true, if_false, Nat.reduceEqDiff, reduceIte]
    repeat' (first | intro _ | refine And.intro ?_ ?_)
    all_goals first | exact hK | omega
  | succ k ih =>
    intro p a hpk h0 ha ha' hK
    have h1 : p < 40 := by omega
    unfold cnt at hK
    simp only [decide_eq_true_eq] at hK
    rw [s96_5]
    
    rcases hr p h0 h1 with ⟨c1, c2, c3, c4, c5, c6⟩ | ⟨c1, c2⟩
    · simp only [s96_0, s96_1, s96_2, s96_3, s96_7, s96_9, s96_12, s96_13, s96_16, s96_18, s96_19, s96_22, s96_23, s96_25, s96_26, s96_29, s96_30, s96_33, s96_36, s96_39, s96_42, s96_43, sx_push, tf, List.length_cons, List.length_nil, Option.some.injEq, exists_eq_left', Nat.reduceAdd, Nat.reduceLeDiff, true_and, and_true, true_or, or_true, Int.zero_add, Nat.zero_le, eq_self, ne_eq, not_true_eq_false, not_false_eq_true, false_implies, true_implies, implies_true, b2i_0, b2i_1, b2i_01, up_sc, sc_at, sc_sc, ite_true, ite_false, if_true, if_false, Nat.reduceEqDiff, reduceIte, tp ho, c2, x42 ho hr hw hx hy hz h0 h1 c1, Int.add_zero]
      repeat' (first | intro _ | refine And.intro ?_ ?_)
      all_goals first | omega | (split at hK <;> first | exact hK | omega | exact ih _ _ (by omega) (by omega) (by omega) (by omega) hK)
    · simp only [s96_0, s96_1, s96_2, s96_3, s96_7, s96_9, s96_12, s96_13, s96_16, s96_18, s96_19, s96_22, s96_23, s96_25, s96_26, s96_29, s96_30, s96_33, s96_36, s96_39, s96_42, s96_43, sx_push, tf, List.length_cons, List.length_nil, Option.some.injEq, exists_eq_left', Nat.reduceAdd, Nat.reduceLeDiff, true_and, and_true, true_or, or_true, Int.zero_add, Nat.zero_le, eq_self, ne_eq, not_true_eq_false, not_false_eq_true, false_implies, true_implies, implies_true, b2i_0, b2i_1, b2i_01, up_sc, sc_at, sc_sc, ite_true, ite_false, if_true, if_false, Nat.reduceEqDiff, reduceIte, tp ho, Int.add_zero]
      repeat' (first | intro _ | refine And.intro ?_ ?_)
      all_goals first | omega | (split at hK <;> first | exact hK | omega | exact ih _ _ (by omega) (by omega) (by omega) (by omega) hK)
theorem x96 (ho : isP o) (hr : rL σ o f) (hw : wfc f) {x y z d : Int} (hx : in8 x) (hy : in8 y) (hz : in8 z) : Rn 96 0 [some (vR o), some (vI (pk x y z)), some (vI d), none, none] [] (T0 n) σ K ↔ K (some (vI (cnt (fun p => decide (f p = 1 ∧ farT f p x y z ≤ d)) 40 0 0))) (T0 n) σ := by
  refine Rn_iff fun K hK => ?_
  simp only [s96_0, s96_1, s96_2, s96_3, s96_7, s96_9, s96_12, s96_13, s96_16, s96_18, s96_19, s96_22, s96_23, s96_25, s96_26, s96_29, s96_30, s96_33, s96_36, s96_39, s96_42, s96_43, sx_push, tf, List.length_cons, List.length_nil, Option.some.injEq, exists_eq_left', Nat.reduceAdd, Nat.reduceLeDiff, true_and, and_true, true_or, or_true, Int.zero_add, Nat.zero_le, eq_self, ne_eq, not_true_eq_false, not_false_eq_true, false_implies, true_implies, implies_true, b2i_0, b2i_1, b2i_01, up_sc, sc_at, sc_sc, ite_true, ite_false, if_true, if_false, Nat.reduceEqDiff, reduceIte]
  exact x96l ho hr hw hx hy hz 40 0 0 (by omega) (by omega) (by omega) (by omega) hK

theorem x94l (ho : isP o) (hr : rL σ o f) (hw : wfc f) {x y z r : Int} (hx : in8 x) (hy : in8 y) (hz : in8 z) : ∀ (k : Nat) (p a : Int) (u : Option sxV), p + k = 40 → 0 ≤ p → 0 ≤ a → a ≤ p → K (some (vI (cnt (fun q => decide (f q = 1 ∧ (farT f q x y z < farT f r x y z ∨ (farT f q x y z = farT f r x y z ∧ q < r)))) k p a))) (T0 n) σ → Rn 94 13 [some (vR o), some (vI r), some (vI (pk x y z)), some (vI (farT f r x y z)), some (vI a), some (vI p), u] [] (T0 n) σ K := by
  intro k
  induction k with
  | zero =>
    intro p a u hp h0 ha ha' hK
    rw [s94_13]
    simp only [s94_0, s94_1, s94_2, s94_3, s94_6, s94_7, s94_8, s94_10, s94_11, s94_15, s94_17, s94_20, s94_21, s94_24, s94_26, s94_27, s94_30, s94_31, s94_33, s94_34, s94_37, s94_39, s94_41, s94_42, s94_45, s94_47, s94_48, s94_51, s94_53, s94_54, s94_57, s94_60, s94_63, s94_66, s94_68, sx_push, tf, List.length_cons, List.length_nil, Option.some.injEq, exists_eq_left', Nat.reduceAdd, Nat.reduceLeDiff, true_and, and_true, true_or, or_true, Int.zero_add, Nat.zero_le, eq_self, ne_eq, not_true_eq_false, not_false_eq_true, false_implies, true_implies, implies_true, b2i_0, b2i_1, b2i_01, up_sc, sc_at, sc_sc, ite_true, ite_false, if_true, if_false, Nat.reduceEqDiff, reduceIte]
    repeat' (first | intro _ | refine And.intro ?_ ?_)
    all_goals first | exact hK | omega
  | succ k ih =>
    intro p a u hp h0 ha ha' hK
    have h1 : p < 40 := by omega
    unfold cnt at hK
    simp only [decide_eq_true_eq] at hK
    rw [s94_13]
    rcases hr p h0 h1 with ⟨c1, c2, c3, c4, c5, c6⟩ | ⟨c1, c2⟩
    · simp only [s94_0, s94_1, s94_2, s94_3, s94_6, s94_7, s94_8, s94_10, s94_11, s94_15, s94_17, s94_20, s94_21, s94_24, s94_26, s94_27, s94_30, s94_31, s94_33, s94_34, s94_37, s94_39, s94_41, s94_42, s94_45, s94_47, s94_48, s94_51, s94_53, s94_54, s94_57, s94_60, s94_63, s94_66, s94_68, sx_push, tf, List.length_cons, List.length_nil, Option.some.injEq, exists_eq_left', Nat.reduceAdd, Nat.reduceLeDiff, true_and, and_true, true_or, or_true, Int.zero_add, Nat.zero_le, eq_self, ne_eq, not_true_eq_false, not_false_eq_true, false_implies, true_implies, implies_true, b2i_0, b2i_1, b2i_01, up_sc, sc_at, sc_sc, ite_true, ite_false, if_true, if_false, Nat.reduceEqDiff, reduceIte, tp ho, c2, x42 ho hr hw hx hy hz h0 h1 c1]
      repeat' (first | intro _ | refine And.intro ?_ ?_)
      all_goals first | omega | (split at hK <;> first | exact hK | omega | exact ih _ _ _ (by omega) (by omega) (by omega) (by omega) hK)
    · simp only [s94_0, s94_1, s94_2, s94_3, s94_6, s94_7, s94_8, s94_10, s94_11, s94_15, s94_17, s94_20, s94_21, s94_24, s94_26, s94_27, s94_30, s94_31, s94_33, s94_34, s94_37, s94_39, s94_41, s94_42, s94_45, s94_47, s94_48, s94_51, s94_53, s94_54, s94_57, s94_60, s94_63, s94_66, s94_68, sx_push, tf, List.length_cons, List.length_nil, Option.some.injEq, exists_eq_left', Nat.reduceAdd, Nat.reduceLeDiff, true_and, and_true, true_or, or_true, Int.zero_add, Nat.zero_le, eq_self, ne_eq, not_true_eq_false, not_false_eq_true, false_implies, true_implies, implies_true, b2i_0, b2i_1, b2i_01, up_sc, sc_at, sc_sc, ite_true, ite_false, if_true, if_false, Nat.reduceEqDiff, reduceIte, tp ho]
      repeat' (first | intro _ | refine And.intro ?_ ?_)
      all_goals first | omega | (split at hK <;> first | exact hK | omega | exact ih _ _ _ (by omega) (by omega) (by omega) (by omega) hK)
def aheadF (f : Int → Int) (x y z r : Int) : Int := cnt (fun q => decide (f q = 1 ∧ (farT f q x y z < farT f r x y z ∨ (farT f q x y z = farT f r x y z ∧ q < r)))) 40 0 0
theorem x94 (ho : isP o) (hr : rL σ o f) (hw : wfc f) {x y z r : Int} (hx : in8 x) (hy : in8 y) (hz : in8 z) (r0 : 0 ≤ r) (r1 : r < 40) (hrr : f r = 1) : Rn 94 0 [some (vR o), some (vI r), some (vI (pk x y z)), none, none, none, none] [] (T0 n) σ K ↔ K (some (vI (aheadF f x y z r))) (T0 n) σ := by
  refine Rn_iff fun K hK => ?_
  simp only [s94_0, s94_1, s94_2, s94_3, s94_6, s94_7, s94_8, s94_10, s94_11, s94_15, s94_17, s94_20, s94_21, s94_24, s94_26, s94_27, s94_30, s94_31, s94_33, s94_34, s94_37, s94_39, s94_41, s94_42, s94_45, s94_47, s94_48, s94_51, s94_53, s94_54, s94_57, s94_60, s94_63, s94_66, s94_68, sx_push, tf, List.length_cons, List.length_nil, Option.some.injEq, exists_eq_left', Nat.reduceAdd, Nat.reduceLeDiff, true_and, and_true, true_or, or_true, Int.zero_add, Nat.zero_le, eq_self, ne_eq, not_true_eq_false, not_false_eq_true, false_implies, true_implies, implies_true, b2i_0, b2i_1, b2i_01, up_sc, sc_at, sc_sc, ite_true, ite_false, if_true, if_false, Nat.reduceEqDiff, reduceIte, tp ho, x42 ho hr hw hx hy hz r0 r1 hrr]
  exact x94l ho hr hw hx hy hz 40 0 0 _ (by omega) (by omega) (by omega) (by omega) hK
theorem x93l (ho : isP o) (hr : rL σ o f) (hw : wfc f) {x y z d : Int} (hx : in8 x) (hy : in8 y) (hz : in8 z) : ∀ (k : Nat) (p : Int), p + k = 40 → 0 ≤ p → K (some (vI (fnd (fun p => decide (f p = 1 ∧ aheadF f x y z p = d)) k p))) (T0 n) σ → Rn 93 2 [some (vR o), some (vI (pk x y z)), some (vI d), some (vI p)] [] (T0 n) σ K := by
  intro k
  induction k with
  | zero =>
    intro p hpk h0 hK
    rw [s93_2]
    simp only [s93_0, s93_1, s93_3, s93_5, s93_8, s93_9, s93_12, s93_13, s93_14, s93_17, s93_18, s93_19, s93_20, s93_23, s93_24, s93_27, s93_28, s93_29, s93_32, s93_35, s93_36, sx_push, tf, List.length_cons, List.length_nil, Option.some.injEq, exists_eq_left', Nat.reduceAdd, Nat.reduceLeDiff, true_and, and_true, true_or, or_true, Int.zero_add, Nat.zero_le, eq_self, ne_eq, not_true_eq_false, not_false_eq_true, false_implies, true_implies, implies_true, b2i_0, b2i_1, b2i_01, up_sc, sc_at, sc_sc, ite_true, ite_false, if_true, if_false, Nat.reduceEqDiff, reduceIte]
    repeat' (first | intro _ | refine And.intro ?_ ?_)
    all_goals first | exact hK | omega
  | succ k ih =>
    intro p hpk h0 hK
    have h1 : p < 40 := by omega
    unfold fnd at hK
    simp only [decide_eq_true_eq] at hK
    rw [s93_2]
    
    rcases hr p h0 h1 with ⟨c1, c2, c3, c4, c5, c6⟩ | ⟨c1, c2⟩
    · simp only [s93_0, s93_1, s93_3, s93_5, s93_8, s93_9, s93_12, s93_13, s93_14, s93_17, s93_18, s93_19, s93_20, s93_23, s93_24, s93_27, s93_28, s93_29, s93_32, s93_35, s93_36, sx_push, tf, List.length_cons, List.length_nil, Option.some.injEq, exists_eq_left', Nat.reduceAdd, Nat.reduceLeDiff, true_and, and_true, true_or, or_true, Int.zero_add, Nat.zero_le, eq_self, ne_eq, not_true_eq_false, not_false_eq_true, false_implies, true_implies, implies_true, b2i_0, b2i_1, b2i_01, up_sc, sc_at, sc_sc, ite_true, ite_false, if_true, if_false, Nat.reduceEqDiff, reduceIte, tp ho, c2, x94 ho hr hw hx hy hz h0 h1 c1]
      repeat' (first | intro _ | refine And.intro ?_ ?_)
      all_goals first | omega | (split at hK <;> first | exact hK | omega | exact ih _ (by omega) (by omega) hK)
    · simp only [s93_0, s93_1, s93_3, s93_5, s93_8, s93_9, s93_12, s93_13, s93_14, s93_17, s93_18, s93_19, s93_20, s93_23, s93_24, s93_27, s93_28, s93_29, s93_32, s93_35, s93_36, sx_push, tf, List.length_cons, List.length_nil, Option.some.injEq, exists_eq_left', Nat.reduceAdd, Nat.reduceLeDiff, true_and, and_true, true_or, or_true, Int.zero_add, Nat.zero_le, eq_self, ne_eq, not_true_eq_false, not_false_eq_true, false_implies, true_implies, implies_true, b2i_0, b2i_1, b2i_01, up_sc, sc_at, sc_sc, ite_true, ite_false, if_true, if_false, Nat.reduceEqDiff, reduceIte, tp ho]
      repeat' (first | intro _ | refine And.intro ?_ ?_)
      all_goals first | omega | (split at hK <;> first | exact hK | omega | exact ih _ (by omega) (by omega) hK)
theorem x93 (ho : isP o) (hr : rL σ o f) (hw : wfc f) {x y z d : Int} (hx : in8 x) (hy : in8 y) (hz : in8 z) : Rn 93 0 [some (vR o), some (vI (pk x y z)), some (vI d), none] [] (T0 n) σ K ↔ K (some (vI (fnd (fun p => decide (f p = 1 ∧ aheadF f x y z p = d)) 40 0))) (T0 n) σ := by
  refine Rn_iff fun K hK => ?_
  simp only [s93_0, s93_1, s93_3, s93_5, s93_8, s93_9, s93_12, s93_13, s93_14, s93_17, s93_18, s93_19, s93_20, s93_23, s93_24, s93_27, s93_28, s93_29, s93_32, s93_35, s93_36, sx_push, tf, List.length_cons, List.length_nil, Option.some.injEq, exists_eq_left', Nat.reduceAdd, Nat.reduceLeDiff, true_and, and_true, true_or, or_true, Int.zero_add, Nat.zero_le, eq_self, ne_eq, not_true_eq_false, not_false_eq_true, false_implies, true_implies, implies_true, b2i_0, b2i_1, b2i_01, up_sc, sc_at, sc_sc, ite_true, ite_false, if_true, if_false, Nat.reduceEqDiff, reduceIte]
  exact x93l ho hr hw hx hy hz 40 0 (by omega) (by omega) hK

theorem x39l (ho : isP o) (hr : rL σ o f) (hw : wfc f) {l x y z : Int} (hl : 0 ≤ l) (hx : in8 x) (hy : in8 y) (hz : in8 z) : ∀ (k : Nat) (p b c : Int) (u : Option sxV), p + k = 40 → 0 ≤ p → (b = -1 ∨ (0 ≤ b ∧ c = farT f b x y z)) → K (some (vI (nearF f l x y z k p b))) (T0 n) σ → Rn 39 8 [some (vR o), some (vI l), some (vI (pk x y z)), some (vI b), some (vI c), some (vI p), u] [] (T0 n) σ K := by
  intro k
  induction k with
  | zero =>
    intro p b c u hp h0 hb hK
    rw [s39_8]
    simp only [s39_0, s39_1, s39_2, s39_3, s39_5, s39_6, s39_10, s39_12, s39_15, s39_16, s39_19, s39_21, s39_22, s39_23, s39_26, s39_27, s39_30, s39_31, s39_34, s39_36, s39_37, s39_38, s39_41, s39_43, s39_44, s39_45, s39_48, s39_50, s39_52, s39_55, s39_57, s39_58, s39_60, s39_62, s39_65, s39_68, s39_69, sx_push, tf, List.length_cons, List.length_nil, Option.some.injEq, exists_eq_left', Nat.reduceAdd, Nat.reduceLeDiff, true_and, and_true, true_or, or_true, Int.zero_add, Nat.zero_le, eq_self, ne_eq, not_true_eq_false, not_false_eq_true, false_implies, true_implies, implies_true, b2i_0, b2i_1, b2i_01, up_sc, sc_at, sc_sc, ite_true, ite_false, if_true, if_false, Nat.reduceEqDiff, reduceIte]
    repeat' (first | intro _ | refine And.intro ?_ ?_)
    all_goals first | exact hK | omega
  | succ k ih =>
    intro p b c u hp h0 hb hK
    have h1 : p < 40 := by omega
    unfold nearF at hK
    rw [s39_8]
    rcases hr p h0 h1 with ⟨c1, c2, c3, c4, c5, c6⟩ | ⟨c1, c2⟩
    · simp only [s39_0, s39_1, s39_2, s39_3, s39_5, s39_6, s39_10, s39_12, s39_15, s39_16, s39_19, s39_21, s39_22, s39_23, s39_26, s39_27, s39_30, s39_31, s39_34, s39_36, s39_37, s39_38, s39_41, s39_43, s39_44, s39_45, s39_48, s39_50, s39_52, s39_55, s39_57, s39_58, s39_60, s39_62, s39_65, s39_68, s39_69, sx_push, tf, List.length_cons, List.length_nil, Option.some.injEq, exists_eq_left', Nat.reduceAdd, Nat.reduceLeDiff, true_and, and_true, true_or, or_true, Int.zero_add, Nat.zero_le, eq_self, ne_eq, not_true_eq_false, not_false_eq_true, false_implies, true_implies, implies_true, b2i_0, b2i_1, b2i_01, up_sc, sc_at, sc_sc, ite_true, ite_false, if_true, if_false, Nat.reduceEqDiff, reduceIte, tp ho, c2, c5, c6, x40T (hw p h0 h1) hx hy hz]
      repeat' (first | intro _ | refine And.intro ?_ ?_)
      all_goals first | omega | (split at hK <;> first | omega | exact ih _ _ _ _ (by omega) (by omega) (Or.inr ⟨h0, rfl⟩) hK | exact ih _ _ _ _ (by omega) (by omega) hb hK)
    · simp only [s39_0, s39_1, s39_2, s39_3, s39_5, s39_6, s39_10, s39_12, s39_15, s39_16, s39_19, s39_21, s39_22, s39_23, s39_26, s39_27, s39_30, s39_31, s39_34, s39_36, s39_37, s39_38, s39_41, s39_43, s39_44, s39_45, s39_48, s39_50, s39_52, s39_55, s39_57, s39_58, s39_60, s39_62, s39_65, s39_68, s39_69, sx_push, tf, List.length_cons, List.length_nil, Option.some.injEq, exists_eq_left', Nat.reduceAdd, Nat.reduceLeDiff, true_and, and_true, true_or, or_true, Int.zero_add, Nat.zero_le, eq_self, ne_eq, not_true_eq_false, not_false_eq_true, false_implies, true_implies, implies_true, b2i_0, b2i_1, b2i_01, up_sc, sc_at, sc_sc, ite_true, ite_false, if_true, if_false, Nat.reduceEqDiff, reduceIte, tp ho]
      rw [if_neg (by omega)] at hK
      repeat' (first | intro _ | refine And.intro ?_ ?_)
      all_goals first | omega | exact ih _ _ _ _ (by omega) (by omega) hb hK
theorem x39 (ho : isP o) (hr : rL σ o f) (hw : wfc f) {l x y z : Int} (hl : 0 ≤ l) (hx : in8 x) (hy : in8 y) (hz : in8 z) : Rn 39 0 [some (vR o), some (vI l), some (vI (pk x y z)), none, none, none, none] [] (T0 n) σ K ↔ K (some (vI (near f l x y z))) (T0 n) σ := by
  refine Rn_iff fun K hK => ?_
  simp only [s39_0, s39_1, s39_2, s39_3, s39_5, s39_6, s39_10, s39_12, s39_15, s39_16, s39_19, s39_21, s39_22, s39_23, s39_26, s39_27, s39_30, s39_31, s39_34, s39_36, s39_37, s39_38, s39_41, s39_43, s39_44, s39_45, s39_48, s39_50, s39_52, s39_55, s39_57, s39_58, s39_60, s39_62, s39_65, s39_68, s39_69, sx_push, tf, List.length_cons, List.length_nil, Option.some.injEq, exists_eq_left', Nat.reduceAdd, Nat.reduceLeDiff, true_and, and_true, true_or, or_true, Int.zero_add, Nat.zero_le, eq_self, ne_eq, not_true_eq_false, not_false_eq_true, false_implies, true_implies, implies_true, b2i_0, b2i_1, b2i_01, up_sc, sc_at, sc_sc, ite_true, ite_false, if_true, if_false, Nat.reduceEqDiff, reduceIte]
  exact x39l ho hr hw hl hx hy hz 40 0 (-1) 0 _ (by omega) (by omega) (Or.inl rfl) hK
/-- the level of one that comes or rises: from k on -/
def lvF (f : Int → Int) (x y z : Int) : Nat → Int → Int
  | 0, _ => 9
  | m + 1, k => if near f k x y z ≠ -1 ∧ farT f (near f k x y z) x y z < 2 ^ k.toNat then k - 1 else lvF f x y z m (k + 1)
theorem lvF_in (f : Int → Int) (x y z : Int) : ∀ (m : Nat) (k : Int), k + m = 10 → 1 ≤ k → k - 1 ≤ lvF f x y z m k ∧ lvF f x y z m k ≤ 9 := by
  intro m
  induction m with
  | zero => intro k h1 h2; exact ⟨by show k - 1 ≤ 9; omega, (by decide : (9 : Int) ≤ 9)⟩
  | succ m ih =>
    intro k h1 h2
    unfold lvF
    split
    · omega
    · have := ih (k + 1) (by omega) (by omega)
      omega
theorem x38l (ho : isP o) (hr : rL σ o f) (hw : wfc f) {l x y z : Int} (hx : in8 x) (hy : in8 y) (hz : in8 z) : ∀ (m : Nat) (k : Int) (u : Option sxV), k + m = 10 → 1 ≤ k → K (some (vI (lvF f x y z m k))) (T0 n) σ → Rn 38 4 [some (vR o), some (vI l), some (vI (pk x y z)), some (vI k), u] [] (T0 n) σ K := by
  intro m
  induction m with
  | zero =>
    intro k u hp h0 hK
    rw [s38_4]
    simp only [s38_0, s38_1, s38_2, s38_3, s38_5, s38_7, s38_10, s38_11, s38_12, s38_13, s38_16, s38_18, s38_20, s38_21, s38_24, s38_25, s38_27, s38_28, s38_31, s38_32, s38_33, s38_34, s38_37, s38_38, s38_39, s38_40, s38_41, s38_44, s38_47, s38_49, sx_push, tf, List.length_cons, List.length_nil, Option.some.injEq, exists_eq_left', Nat.reduceAdd, Nat.reduceLeDiff, true_and, and_true, true_or, or_true, Int.zero_add, Nat.zero_le, eq_self, ne_eq, not_true_eq_false, not_false_eq_true, false_implies, true_implies, implies_true, b2i_0, b2i_1, b2i_01, up_sc, sc_at, sc_sc, ite_true, ite_false, if_true, if_false, Nat.reduceEqDiff, reduceIte]
    repeat' (first | intro _ | refine And.intro ?_ ?_)
    all_goals first | exact hK | omega
  | succ m ih =>
    intro k u hp h0 hK
    have pw := pw_in (k := k) (by omega) (by omega)
    rw [s38_4]
    unfold lvF at hK
    rcases near_in f k x y z with hn | ⟨n0, n1, n2, -⟩
    · simp only [s38_0, s38_1, s38_2, s38_3, s38_5, s38_7, s38_10, s38_11, s38_12, s38_13, s38_16, s38_18, s38_20, s38_21, s38_24, s38_25, s38_27, s38_28, s38_31, s38_32, s38_33, s38_34, s38_37, s38_38, s38_39, s38_40, s38_41, s38_44, s38_47, s38_49, sx_push, tf, List.length_cons, List.length_nil, Option.some.injEq, exists_eq_left', Nat.reduceAdd, Nat.reduceLeDiff, true_and, and_true, true_or, or_true, Int.zero_add, Nat.zero_le, eq_self, ne_eq, not_true_eq_false, not_false_eq_true, false_implies, true_implies, implies_true, b2i_0, b2i_1, b2i_01, up_sc, sc_at, sc_sc, ite_true, ite_false, if_true, if_false, Nat.reduceEqDiff, reduceIte, tp ho, x39 ho hr hw (show 0 ≤ k by omega) hx hy hz, hn]
      rw [if_neg (by omega)] at hK
      repeat' (first | intro _ | refine And.intro ?_ ?_)
      all_goals first | omega | exact ih _ _ (by omega) (by omega) hK
    · simp only [s38_0, s38_1, s38_2, s38_3, s38_5, s38_7, s38_10, s38_11, s38_12, s38_13, s38_16, s38_18, s38_20, s38_21, s38_24, s38_25, s38_27, s38_28, s38_31, s38_32, s38_33, s38_34, s38_37, s38_38, s38_39, s38_40, s38_41, s38_44, s38_47, s38_49, sx_push, tf, List.length_cons, List.length_nil, Option.some.injEq, exists_eq_left', Nat.reduceAdd, Nat.reduceLeDiff, true_and, and_true, true_or, or_true, Int.zero_add, Nat.zero_le, eq_self, ne_eq, not_true_eq_false, not_false_eq_true, false_implies, true_implies, implies_true, b2i_0, b2i_1, b2i_01, up_sc, sc_at, sc_sc, ite_true, ite_false, if_true, if_false, Nat.reduceEqDiff, reduceIte, tp ho, x39 ho hr hw (show 0 ≤ k by omega) hx hy hz, x42 ho hr hw hx hy hz n0 n1 n2, Int.one_mul]
      repeat' (first | intro _ | refine And.intro ?_ ?_)
      all_goals first | omega | (split at hK <;> first | omega | exact hK | exact ih _ _ (by omega) (by omega) hK)
theorem x38 (ho : isP o) (hr : rL σ o f) (hw : wfc f) {l x y z : Int} (hl : 0 ≤ l) (hl' : l ≤ 9) (hx : in8 x) (hy : in8 y) (hz : in8 z) : Rn 38 0 [some (vR o), some (vI l), some (vI (pk x y z)), none, none] [] (T0 n) σ K ↔ K (some (vI (lvF f x y z (9 - l).toNat (l + 1)))) (T0 n) σ := by
  refine Rn_iff fun K hK => ?_
  simp only [s38_0, s38_1, s38_2, s38_3, s38_5, s38_7, s38_10, s38_11, s38_12, s38_13, s38_16, s38_18, s38_20, s38_21, s38_24, s38_25, s38_27, s38_28, s38_31, s38_32, s38_33, s38_34, s38_37, s38_38, s38_39, s38_40, s38_41, s38_44, s38_47, s38_49, sx_push, tf, List.length_cons, List.length_nil, Option.some.injEq, exists_eq_left', Nat.reduceAdd, Nat.reduceLeDiff, true_and, and_true, true_or, or_true, Int.zero_add, Nat.zero_le, eq_self, ne_eq, not_true_eq_false, not_false_eq_true, false_implies, true_implies, implies_true, b2i_0, b2i_1, b2i_01, up_sc, sc_at, sc_sc, ite_true, ite_false, if_true, if_false, Nat.reduceEqDiff, reduceIte]
  repeat' (first | intro _ | refine And.intro ?_ ?_)
  all_goals first | omega | exact x38l ho hr hw hx hy hz _ _ _ (by omega) (by omega) hK
theorem x66l (ho : isP o) (hr : rL σ o f) {l kk : Int} (hl : 0 ≤ l) (hk : 0 ≤ kk) (hi : inI kk) : ∀ (k : Nat) (p a : Int), p + k = 40 → 0 ≤ p → 0 ≤ a → a ≤ p → a ≤ kk → K (some (vI (kth (fun p => decide (f p = 1 ∧ l ≤ f (160 + p))) kk k p a))) (T0 n) σ → Rn 66 5 [some (vR o), some (vI l), some (vI kk), some (vI (kk - a)), some (vI p)] [] (T0 n) σ K := by
  intro k
  induction k with
  | zero =>
    intro p a hp h0 ha ha' hak hK
    unfold kth at hK
    rw [if_neg (by omega)] at hK
    rw [s66_5]
    simp only [s66_0, s66_1, s66_2, s66_3, s66_7, s66_9, s66_12, s66_13, s66_16, s66_18, s66_19, s66_20, s66_23, s66_24, s66_27, s66_29, s66_30, s66_33, s66_36, s66_39, s66_40, sx_push, tf, List.length_cons, List.length_nil, Option.some.injEq, exists_eq_left', Nat.reduceAdd, Nat.reduceLeDiff, true_and, and_true, true_or, or_true, Int.zero_add, Nat.zero_le, eq_self, ne_eq, not_true_eq_false, not_false_eq_true, false_implies, true_implies, implies_true, b2i_0, b2i_1, b2i_01, up_sc, sc_at, sc_sc, ite_true, ite_false, if_true, if_false, Nat.reduceEqDiff, reduceIte]
    repeat' (first | intro _ | refine And.intro ?_ ?_)
    all_goals (first | exact hK | omega | (rw [b2i_t] at hK <;> first | exact hK | omega) | (rw [b2i_f] at hK <;> first | exact hK | omega) | (split at hK <;> first | exact hK | omega))
  | succ k ih =>
    intro p a hp h0 ha ha' hak hK
    have h1 : p < 40 := by omega
    unfold kth at hK
    simp only [decide_eq_true_eq] at hK
    rw [s66_5]
    have e : kk - a + -1 = kk - (a + 1) := by omega
    rcases hr p h0 h1 with ⟨c1, c2, c3, c4, c5, c6⟩ | ⟨c1, c2⟩
    · simp only [s66_0, s66_1, s66_2, s66_3, s66_7, s66_9, s66_12, s66_13, s66_16, s66_18, s66_19, s66_20, s66_23, s66_24, s66_27, s66_29, s66_30, s66_33, s66_36, s66_39, s66_40, sx_push, tf, List.length_cons, List.length_nil, Option.some.injEq, exists_eq_left', Nat.reduceAdd, Nat.reduceLeDiff, true_and, and_true, true_or, or_true, Int.zero_add, Nat.zero_le, eq_self, ne_eq, not_true_eq_false, not_false_eq_true, false_implies, true_implies, implies_true, b2i_0, b2i_1, b2i_01, up_sc, sc_at, sc_sc, ite_true, ite_false, if_true, if_false, Nat.reduceEqDiff, reduceIte, tp ho, c2, e]
      by_cases c1' : f p = 1 ∧ l ≤ f (160 + p)
      · rw [if_pos c1'] at hK
        repeat' (first | intro _ | refine And.intro ?_ ?_)
        all_goals first | omega | (split at hK <;> first | exact hK | omega | exact ih _ _ (by omega) (by omega) (by omega) (by omega) (by omega) hK)
      · rw [if_neg c1'] at hK
        repeat' (first | intro _ | refine And.intro ?_ ?_)
        all_goals first | omega | exact ih _ _ (by omega) (by omega) (by omega) (by omega) (by omega) hK
    · simp only [s66_0, s66_1, s66_2, s66_3, s66_7, s66_9, s66_12, s66_13, s66_16, s66_18, s66_19, s66_20, s66_23, s66_24, s66_27, s66_29, s66_30, s66_33, s66_36, s66_39, s66_40, sx_push, tf, List.length_cons, List.length_nil, Option.some.injEq, exists_eq_left', Nat.reduceAdd, Nat.reduceLeDiff, true_and, and_true, true_or, or_true, Int.zero_add, Nat.zero_le, eq_self, ne_eq, not_true_eq_false, not_false_eq_true, false_implies, true_implies, implies_true, b2i_0, b2i_1, b2i_01, up_sc, sc_at, sc_sc, ite_true, ite_false, if_true, if_false, Nat.reduceEqDiff, reduceIte, tp ho, e]
      rw [if_neg (by omega)] at hK
      repeat' (first | intro _ | refine And.intro ?_ ?_)
      all_goals first | omega | exact ih _ _ (by omega) (by omega) (by omega) (by omega) (by omega) hK
theorem x66 (ho : isP o) (hr : rL σ o f) {l kk : Int} (hl : 0 ≤ l) (hk : 0 ≤ kk) (hi : inI kk) : Rn 66 0 [some (vR o), some (vI l), some (vI kk), none, none] [] (T0 n) σ K ↔ K (some (vI (kth (fun p => decide (f p = 1 ∧ l ≤ f (160 + p))) kk 40 0 0))) (T0 n) σ := by
  refine Rn_iff fun K hK => ?_
  simp only [s66_0, s66_1, s66_2, s66_3, s66_7, s66_9, s66_12, s66_13, s66_16, s66_18, s66_19, s66_20, s66_23, s66_24, s66_27, s66_29, s66_30, s66_33, s66_36, s66_39, s66_40, sx_push, tf, List.length_cons, List.length_nil, Option.some.injEq, exists_eq_left', Nat.reduceAdd, Nat.reduceLeDiff, true_and, and_true, true_or, or_true, Int.zero_add, Nat.zero_le, eq_self, ne_eq, not_true_eq_false, not_false_eq_true, false_implies, true_implies, implies_true, b2i_0, b2i_1, b2i_01, up_sc, sc_at, sc_sc, ite_true, ite_false, if_true, if_false, Nat.reduceEqDiff, reduceIte]
  have := x66l (n := n) (K := K) ho hr hl hk hi 40 0 0 (by omega) (by omega) (by omega) (by omega) hk hK
  rw [Int.sub_zero] at this
  exact this
end C2
