/-! reads of the reference: found and counted -/
def fnd (c : Int → Bool) : Nat → Int → Int
  | 0, _ => -1
  | k + 1, p => if c p = true then p else fnd c k (p + 1)
def cnt (c : Int → Bool) : Nat → Int → Int → Int
  | 0, _, a => a
  | k + 1, p, a => cnt c k (p + 1) (if c p = true then a + 1 else a)
theorem fnd_congr {c d : Int → Bool} : ∀ (k : Nat) (p : Int), (∀ q, p ≤ q → q < p + k → c q = d q) → fnd c k p = fnd d k p := by
  intro k
  induction k with
  | zero => intro p _; rfl
  | succ k ih =>
    intro p h
    unfold fnd
    rw [h p (by omega) (by omega), ih (p + 1) (fun q h1 h2 => h q (by omega) (by omega))]
theorem cnt_congr {c d : Int → Bool} : ∀ (k : Nat) (p a : Int), (∀ q, p ≤ q → q < p + k → c q = d q) → cnt c k p a = cnt d k p a := by
  intro k
  induction k with
  | zero => intro p a _; rfl
  | succ k ih =>
    intro p a h
    unfold cnt
    rw [h p (by omega) (by omega), ih (p + 1) _ (fun q h1 h2 => h q (by omega) (by omega))]
theorem fnd_in (c : Int → Bool) : ∀ (k : Nat) (p : Int), fnd c k p = -1 ∨ (p ≤ fnd c k p ∧ fnd c k p < p + k ∧ c (fnd c k p) = true) := by
  intro k
  induction k with
  | zero => intro p; exact Or.inl rfl
  | succ k ih =>
    intro p
    unfold fnd
    split
    · rename_i h; exact Or.inr ⟨by omega, by omega, h⟩
    · rcases ih (p + 1) with h | ⟨h1, h2, h3⟩
      · exact Or.inl h
      · exact Or.inr ⟨by omega, by omega, h3⟩
theorem cnt_in (c : Int → Bool) : ∀ (k : Nat) (p a : Int), a ≤ cnt c k p a ∧ cnt c k p a ≤ a + k := by
  intro k
  induction k with
  | zero => intro p a; show a ≤ a ∧ a ≤ a + 0; omega
  | succ k ih =>
    intro p a
    unfold cnt
    split
    · have := ih (p + 1) (a + 1); omega
    · have := ih (p + 1) a; omega
section M5
variable {n : Nat} {σ : sxS} {K : Option sxV → sxT → sxS → Prop}
theorem x251l  : ∀ (k : Nat) (p : Int), p + k = 40 → 0 ≤ p → K (some (vI (fnd (fun p => decide (σ 150 p = 0)) k p))) (T0 n) σ → Rn 251 2 [some (vR 149), some (vI p)] [] (T0 n) σ K := by
  intro k
  induction k with
  | zero =>
    intro p hp h0 hK
    rw [s251_2]
    simp only [s251_0, s251_1, s251_3, s251_5, s251_8, s251_9, s251_12, s251_13, s251_14, s251_15, s251_16, s251_19, s251_20, s251_21, s251_24, s251_27, s251_28, sx_push, tf, List.length_cons, List.length_nil, Option.some.injEq, exists_eq_left', Nat.reduceAdd, Nat.reduceLeDiff, true_and, and_true, true_or, or_true, Int.zero_add, Nat.zero_le, eq_self, ne_eq, not_true_eq_false, not_false_eq_true, false_implies, true_implies, implies_true, b2i_0, b2i_1, b2i_01, up_sc, sc_at, sc_sc, ite_true, ite_false, if_true, if_false, Nat.reduceEqDiff, reduceIte]
    repeat' (first | intro _ | refine And.intro ?_ ?_)
    all_goals first | exact hK | omega
  | succ k ih =>
    intro p hp h0 hK
    have h1 : p < 40 := by omega
    unfold fnd at hK
    simp only [decide_eq_true_eq] at hK
    rw [s251_2]
    simp only [s251_0, s251_1, s251_3, s251_5, s251_8, s251_9, s251_12, s251_13, s251_14, s251_15, s251_16, s251_19, s251_20, s251_21, s251_24, s251_27, s251_28, sx_push, tf, List.length_cons, List.length_nil, Option.some.injEq, exists_eq_left', Nat.reduceAdd, Nat.reduceLeDiff, true_and, and_true, true_or, or_true, Int.zero_add, Nat.zero_le, eq_self, ne_eq, not_true_eq_false, not_false_eq_true, false_implies, true_implies, implies_true, b2i_0, b2i_1, b2i_01, up_sc, sc_at, sc_sc, ite_true, ite_false, if_true, if_false, Nat.reduceEqDiff, reduceIte]
    repeat' (first | intro _ | refine And.intro ?_ ?_)
    all_goals first | omega | (split at hK <;> first | exact hK | omega | exact ih _ (by omega) (by omega) hK)
theorem x251  : Rn 251 0 [some (vR 149), none] [] (T0 n) σ K ↔ K (some (vI (fnd (fun p => decide (σ 150 p = 0)) 40 0))) (T0 n) σ := by
  refine Rn_iff fun K hK => ?_
  simp only [s251_0, s251_1, s251_3, s251_5, s251_8, s251_9, s251_12, s251_13, s251_14, s251_15, s251_16, s251_19, s251_20, s251_21, s251_24, s251_27, s251_28, sx_push, tf, List.length_cons, List.length_nil, Option.some.injEq, exists_eq_left', Nat.reduceAdd, Nat.reduceLeDiff, true_and, and_true, true_or, or_true, Int.zero_add, Nat.zero_le, eq_self, ne_eq, not_true_eq_false, not_false_eq_true, false_implies, true_implies, implies_true, b2i_0, b2i_1, b2i_01, up_sc, sc_at, sc_sc, ite_true, ite_false, if_true, if_false, Nat.reduceEqDiff, reduceIte]
  exact x251l  40 0 (by omega) (by omega) hK

theorem x213l {x y z : Int} : ∀ (k : Nat) (p : Int), p + k = 40 → 0 ≤ p → K (some (vI (fnd (fun p => decide (σ 150 p = 1 ∧ σ 150 (40 + p) = x ∧ σ 150 (80 + p) = y ∧ σ 150 (120 + p) = z)) k p))) (T0 n) σ → Rn 213 3 [some (vR 149), some (vI x), some (vI y), some (vI z), some (vI p)] [] (T0 n) σ K := by
  intro k
  induction k with
  | zero =>
    intro p hp h0 hK
    rw [s213_3]
    simp only [s213_0, s213_1, s213_5, s213_7, s213_10, s213_11, s213_14, s213_15, s213_17, s213_18, s213_19, s213_20, s213_23, s213_24, s213_27, s213_29, s213_31, s213_32, s213_33, s213_34, s213_37, s213_38, s213_41, s213_43, s213_45, s213_46, s213_47, s213_48, s213_51, s213_52, s213_55, s213_57, s213_59, s213_60, s213_61, s213_62, s213_65, s213_67, s213_68, s213_71, s213_74, s213_75, sx_push, tf, List.length_cons, List.length_nil, Option.some.injEq, exists_eq_left', Nat.reduceAdd, Nat.reduceLeDiff, true_and, and_true, true_or, or_true, Int.zero_add, Nat.zero_le, eq_self, ne_eq, not_true_eq_false, not_false_eq_true, false_implies, true_implies, implies_true, b2i_0, b2i_1, b2i_01, up_sc, sc_at, sc_sc, ite_true, ite_false, if_true, if_false, Nat.reduceEqDiff, reduceIte]
    repeat' (first | intro _ | refine And.intro ?_ ?_)
    all_goals first | exact hK | omega
  | succ k ih =>
    intro p hp h0 hK
    have h1 : p < 40 := by omega
    unfold fnd at hK
    simp only [decide_eq_true_eq] at hK
    rw [s213_3]
    simp only [s213_0, s213_1, s213_5, s213_7, s213_10, s213_11, s213_14, s213_15, s213_17, s213_18, s213_19, s213_20, s213_23, s213_24, s213_27, s213_29, s213_31, s213_32, s213_33, s213_34, s213_37, s213_38, s213_41, s213_43, s213_45, s213_46, s213_47, s213_48, s213_51, s213_52, s213_55, s213_57, s213_59, s213_60, s213_61, s213_62, s213_65, s213_67, s213_68, s213_71, s213_74, s213_75, sx_push, tf, List.length_cons, List.length_nil, Option.some.injEq, exists_eq_left', Nat.reduceAdd, Nat.reduceLeDiff, true_and, and_true, true_or, or_true, Int.zero_add, Nat.zero_le, eq_self, ne_eq, not_true_eq_false, not_false_eq_true, false_implies, true_implies, implies_true, b2i_0, b2i_1, b2i_01, up_sc, sc_at, sc_sc, ite_true, ite_false, if_true, if_false, Nat.reduceEqDiff, reduceIte]
    repeat' (first | intro _ | refine And.intro ?_ ?_)
    all_goals first | omega | (split at hK <;> first | exact hK | omega | exact ih _ (by omega) (by omega) hK)
theorem x213 {x y z : Int} : Rn 213 0 [some (vR 149), some (vI x), some (vI y), some (vI z), none] [] (T0 n) σ K ↔ K (some (vI (fnd (fun p => decide (σ 150 p = 1 ∧ σ 150 (40 + p) = x ∧ σ 150 (80 + p) = y ∧ σ 150 (120 + p) = z)) 40 0))) (T0 n) σ := by
  refine Rn_iff fun K hK => ?_
  simp only [s213_0, s213_1, s213_5, s213_7, s213_10, s213_11, s213_14, s213_15, s213_17, s213_18, s213_19, s213_20, s213_23, s213_24, s213_27, s213_29, s213_31, s213_32, s213_33, s213_34, s213_37, s213_38, s213_41, s213_43, s213_45, s213_46, s213_47, s213_48, s213_51, s213_52, s213_55, s213_57, s213_59, s213_60, s213_61, s213_62, s213_65, s213_67, s213_68, s213_71, s213_74, s213_75, sx_push, tf, List.length_cons, List.length_nil, Option.some.injEq, exists_eq_left', Nat.reduceAdd, Nat.reduceLeDiff, true_and, and_true, true_or, or_true, Int.zero_add, Nat.zero_le, eq_self, ne_eq, not_true_eq_false, not_false_eq_true, false_implies, true_implies, implies_true, b2i_0, b2i_1, b2i_01, up_sc, sc_at, sc_sc, ite_true, ite_false, if_true, if_false, Nat.reduceEqDiff, reduceIte]
  exact x213l  40 0 (by omega) (by omega) hK

theorem x209 {p q : Int} (h0 : 0 ≤ p) (h1 : p < 40) : Rn 209 0 [some (vR 149), some (vI p), some (vI q)] [] (T0 n) σ K ↔ K (some (vI (b2i (σ 150 p = 1 ∧ σ 150 (160 + p) < 10 ∧ σ 150 (200 + p) = q)))) (T0 n) σ := by
  refine Rn_iff fun K hK => ?_
  simp only [s209_0, s209_1, s209_4, s209_5, s209_6, s209_7, s209_8, s209_9, s209_12, s209_13, s209_16, s209_19, s209_20, s209_21, s209_22, s209_24, s209_27, s209_28, s209_31, s209_34, s209_35, s209_36, s209_37, s209_38, s209_41, s209_42, s209_45, s209_46, sx_push, tf, List.length_cons, List.length_nil, Option.some.injEq, exists_eq_left', Nat.reduceAdd, Nat.reduceLeDiff, true_and, and_true, true_or, or_true, Int.zero_add, Nat.zero_le, eq_self, ne_eq, not_true_eq_false, not_false_eq_true, false_implies, true_implies, implies_true, b2i_0, b2i_1, b2i_01, up_sc, sc_at, sc_sc, ite_true, ite_false, if_true, if_false, Nat.reduceEqDiff, reduceIte]
  repeat' (first | intro _ | refine And.intro ?_ ?_)
  all_goals (first | exact hK | omega | (rw [b2i_t] at hK <;> first | exact hK | omega) | (rw [b2i_f] at hK <;> first | exact hK | omega) | (split at hK <;> first | exact hK | omega))
theorem x208l {q : Int} : ∀ (k : Nat) (p a : Int), p + k = 40 → 0 ≤ p → 0 ≤ a → a ≤ p → K (some (vI (cnt (fun p => decide (σ 150 p = 1 ∧ σ 150 (160 + p) < 10 ∧ σ 150 (200 + p) = q)) k p a))) (T0 n) σ → Rn 208 4 [some (vR 149), some (vI q), some (vI a), some (vI p)] [] (T0 n) σ K := by
  intro k
  induction k with
  | zero =>
    intro p a hp h0 ha ha' hK
    rw [s208_4]
    simp only [s208_0, s208_1, s208_2, s208_3, s208_5, s208_7, s208_10, s208_11, s208_12, s208_13, s208_14, s208_17, s208_20, s208_21, s208_24, s208_25, s208_26, s208_27, s208_30, s208_33, s208_34, sx_push, tf, List.length_cons, List.length_nil, Option.some.injEq, exists_eq_left', Nat.reduceAdd, Nat.reduceLeDiff, true_and, and_true, true_or, or_true, Int.zero_add, Nat.zero_le, eq_self, ne_eq, not_true_eq_false, not_false_eq_true, false_implies, true_implies, implies_true, b2i_0, b2i_1, b2i_01, up_sc, sc_at, sc_sc, ite_true, ite_false, if_true, if_false, Nat.reduceEqDiff, reduceIte]
    repeat' (first | intro _ | refine And.intro ?_ ?_)
    all_goals first | exact hK | omega
  | succ k ih =>
    intro p a hp h0 ha ha' hK
    have h1 : p < 40 := by omega
    unfold cnt at hK
    simp only [decide_eq_true_eq] at hK
    rw [s208_4]
    simp only [s208_0, s208_1, s208_2, s208_3, s208_5, s208_7, s208_10, s208_11, s208_12, s208_13, s208_14, s208_17, s208_20, s208_21, s208_24, s208_25, s208_26, s208_27, s208_30, s208_33, s208_34, sx_push, tf, List.length_cons, List.length_nil, Option.some.injEq, exists_eq_left', Nat.reduceAdd, Nat.reduceLeDiff, true_and, and_true, true_or, or_true, Int.zero_add, Nat.zero_le, eq_self, ne_eq, not_true_eq_false, not_false_eq_true, false_implies, true_implies, implies_true, b2i_0, b2i_1, b2i_01, up_sc, sc_at, sc_sc, ite_true, ite_false, if_true, if_false, Nat.reduceEqDiff, reduceIte, x209 h0 h1, Int.add_zero]
    repeat' (first | intro _ | refine And.intro ?_ ?_)
    all_goals first | omega | (split at hK <;> first | exact hK | omega | exact ih _ _ (by omega) (by omega) (by omega) (by omega) hK)
theorem x208 {q : Int} : Rn 208 0 [some (vR 149), some (vI q), none, none] [] (T0 n) σ K ↔ K (some (vI (cnt (fun p => decide (σ 150 p = 1 ∧ σ 150 (160 + p) < 10 ∧ σ 150 (200 + p) = q)) 40 0 0))) (T0 n) σ := by
  refine Rn_iff fun K hK => ?_
  simp only [s208_0, s208_1, s208_2, s208_3, s208_5, s208_7, s208_10, s208_11, s208_12, s208_13, s208_14, s208_17, s208_20, s208_21, s208_24, s208_25, s208_26, s208_27, s208_30, s208_33, s208_34, sx_push, tf, List.length_cons, List.length_nil, Option.some.injEq, exists_eq_left', Nat.reduceAdd, Nat.reduceLeDiff, true_and, and_true, true_or, or_true, Int.zero_add, Nat.zero_le, eq_self, ne_eq, not_true_eq_false, not_false_eq_true, false_implies, true_implies, implies_true, b2i_0, b2i_1, b2i_01, up_sc, sc_at, sc_sc, ite_true, ite_false, if_true, if_false, Nat.reduceEqDiff, reduceIte]
  exact x208l  40 0 0 (by omega) (by omega) (by omega) (by omega) hK

theorem x212 {x y z : Int} : Rn 212 0 [some (vR 149), some (vI x), some (vI y), some (vI z)] [] (T0 n) σ K ↔ K (some (vI (fnd (fun p => decide (σ 150 p = 1 ∧ σ 150 (40 + p) = x ∧ σ 150 (80 + p) = y ∧ σ 150 (120 + p) = z)) 40 0))) (T0 n) σ := by
  refine Rn_iff fun K hK => ?_
  simp only [s212_0, s212_1, s212_2, s212_3, s212_4, s212_7, sx_push, tf, List.length_cons, List.length_nil, Option.some.injEq, exists_eq_left', Nat.reduceAdd, Nat.reduceLeDiff, true_and, and_true, true_or, or_true, Int.zero_add, Nat.zero_le, eq_self, ne_eq, not_true_eq_false, not_false_eq_true, false_implies, true_implies, implies_true, b2i_0, b2i_1, b2i_01, up_sc, sc_at, sc_sc, ite_true, ite_false, if_true, if_false, Nat.reduceEqDiff, reduceIte, x213]
  exact hK
theorem x215 {p q : Int} (hw : wfc (σ 150)) : Rn 215 0 [some (vR 149), some (vI p), some (vI q)] [] (T0 n) σ K ↔ K (some (vI (if ((0 ≤ p ∧ p < 40) ∧ σ 150 p = 1) ∧ ((0 ≤ q ∧ q < 40) ∧ σ 150 q = 1) then farT (σ 150) p (σ 150 (40 + q)) (σ 150 (80 + q)) (σ 150 (120 + q)) else -1))) (T0 n) σ := by
  refine Rn_iff fun K hK => ?_
  by_cases h1 : 0 ≤ p ∧ p < 40
  · by_cases h2 : 0 ≤ q ∧ q < 40
    · simp only [s215_0, s215_1, s215_2, s215_5, s215_8, s215_9, s215_10, s215_13, s215_16, s215_17, s215_18, s215_19, s215_22, s215_25, s215_26, sx_push, tf, List.length_cons, List.length_nil, Option.some.injEq, exists_eq_left', Nat.reduceAdd, Nat.reduceLeDiff, true_and, and_true, true_or, or_true, Int.zero_add, Nat.zero_le, eq_self, ne_eq, not_true_eq_false, not_false_eq_true, false_implies, true_implies, implies_true, b2i_0, b2i_1, b2i_01, up_sc, sc_at, sc_sc, ite_true, ite_false, if_true, if_false, Nat.reduceEqDiff, reduceIte, x205, x216 hw h1.1 h1.2 h2.1 h2.2]
      repeat' (first | intro _ | refine And.intro ?_ ?_)
      all_goals (first | exact hK | omega | (rw [b2i_t] at hK <;> first | exact hK | omega) | (rw [b2i_f] at hK <;> first | exact hK | omega) | (split at hK <;> first | exact hK | omega))
    · rw [if_neg (by omega)] at hK
      simp only [s215_0, s215_1, s215_2, s215_5, s215_8, s215_9, s215_10, s215_13, s215_16, s215_17, s215_18, s215_19, s215_22, s215_25, s215_26, sx_push, tf, List.length_cons, List.length_nil, Option.some.injEq, exists_eq_left', Nat.reduceAdd, Nat.reduceLeDiff, true_and, and_true, true_or, or_true, Int.zero_add, Nat.zero_le, eq_self, ne_eq, not_true_eq_false, not_false_eq_true, false_implies, true_implies, implies_true, b2i_0, b2i_1, b2i_01, up_sc, sc_at, sc_sc, ite_true, ite_false, if_true, if_false, Nat.reduceEqDiff, reduceIte, x205]
      repeat' (first | intro _ | refine And.intro ?_ ?_)
      all_goals first | exact hK | omega
  · rw [if_neg (by omega)] at hK
    simp only [s215_0, s215_1, s215_2, s215_5, s215_8, s215_9, s215_10, s215_13, s215_16, s215_17, s215_18, s215_19, s215_22, s215_25, s215_26, sx_push, tf, List.length_cons, List.length_nil, Option.some.injEq, exists_eq_left', Nat.reduceAdd, Nat.reduceLeDiff, true_and, and_true, true_or, or_true, Int.zero_add, Nat.zero_le, eq_self, ne_eq, not_true_eq_false, not_false_eq_true, false_implies, true_implies, implies_true, b2i_0, b2i_1, b2i_01, up_sc, sc_at, sc_sc, ite_true, ite_false, if_true, if_false, Nat.reduceEqDiff, reduceIte, x205]
    repeat' (first | intro _ | refine And.intro ?_ ?_)
    all_goals first | exact hK | omega
/-- by parents up, as long as the level is below -/
def upF (f : Int → Int) (l : Int) : Nat → Int → Int
  | 0, p => p
  | m + 1, p => if f (160 + p) < l then upF f l m (f (200 + p)) else p
/-- parents are there, one or more levels up; one root -/
def tree (f : Int → Int) : Prop := ∀ p, 0 ≤ p → p < 40 → f p = 1 → 0 ≤ f (160 + p) ∧ f (160 + p) ≤ 10 ∧ (f (160 + p) < 10 → (0 ≤ f (200 + p) ∧ f (200 + p) < 40) ∧ f (f (200 + p)) = 1 ∧ f (160 + p) < f (160 + f (200 + p)))
theorem x219l (ht : tree (σ 150)) {q l : Int} (hl : l ≤ 10) : ∀ (m : Nat) (p : Int), (0 ≤ p ∧ p < 40) → σ 150 p = 1 → 10 ≤ σ 150 (160 + p) + m → K (some (vI (upF (σ 150) l m p))) (T0 n) σ → Rn 219 2 [some (vR 149), some (vI q), some (vI l), some (vI p)] [] (T0 n) σ K := by
  intro m
  induction m with
  | zero =>
    intro p hp h1 hm hK
    rw [s219_2]
    simp only [s219_0, s219_1, s219_3, s219_6, s219_9, s219_10, s219_11, s219_12, s219_13, s219_16, s219_17, s219_20, s219_23, s219_24, s219_25, s219_26, s219_27, s219_30, s219_31, sx_push, tf, List.length_cons, List.length_nil, Option.some.injEq, exists_eq_left', Nat.reduceAdd, Nat.reduceLeDiff, true_and, and_true, true_or, or_true, Int.zero_add, Nat.zero_le, eq_self, ne_eq, not_true_eq_false, not_false_eq_true, false_implies, true_implies, implies_true, b2i_0, b2i_1, b2i_01, up_sc, sc_at, sc_sc, ite_true, ite_false, if_true, if_false, Nat.reduceEqDiff, reduceIte]
    repeat' (first | intro _ | refine And.intro ?_ ?_)
    all_goals first | exact hK | omega
  | succ m ih =>
    intro p hp h1 hm hK
    obtain ⟨t1, t2, t3⟩ := ht p hp.1 hp.2 h1
    unfold upF at hK
    rw [s219_2]
    simp only [s219_0, s219_1, s219_3, s219_6, s219_9, s219_10, s219_11, s219_12, s219_13, s219_16, s219_17, s219_20, s219_23, s219_24, s219_25, s219_26, s219_27, s219_30, s219_31, sx_push, tf, List.length_cons, List.length_nil, Option.some.injEq, exists_eq_left', Nat.reduceAdd, Nat.reduceLeDiff, true_and, and_true, true_or, or_true, Int.zero_add, Nat.zero_le, eq_self, ne_eq, not_true_eq_false, not_false_eq_true, false_implies, true_implies, implies_true, b2i_0, b2i_1, b2i_01, up_sc, sc_at, sc_sc, ite_true, ite_false, if_true, if_false, Nat.reduceEqDiff, reduceIte]
    repeat' (first | intro _ | refine And.intro ?_ ?_)
    all_goals first | omega | (split at hK <;> first | exact hK | omega | skip)
    · have t4 := t3 (by omega)
      exact ih _ t4.1 t4.2.1 (by omega) hK
theorem x219 (ht : tree (σ 150)) {p l : Int} (hl : l ≤ 10) (hp : 0 ≤ p ∧ p < 40) (h1 : σ 150 p = 1) : Rn 219 0 [some (vR 149), some (vI p), some (vI l), none] [] (T0 n) σ K ↔ K (some (vI (upF (σ 150) l 10 p))) (T0 n) σ := by
  refine Rn_iff fun K hK => ?_
  have := ht p hp.1 hp.2 h1
  simp only [s219_0, s219_1, s219_3, s219_6, s219_9, s219_10, s219_11, s219_12, s219_13, s219_16, s219_17, s219_20, s219_23, s219_24, s219_25, s219_26, s219_27, s219_30, s219_31, sx_push, tf, List.length_cons, List.length_nil, Option.some.injEq, exists_eq_left', Nat.reduceAdd, Nat.reduceLeDiff, true_and, and_true, true_or, or_true, Int.zero_add, Nat.zero_le, eq_self, ne_eq, not_true_eq_false, not_false_eq_true, false_implies, true_implies, implies_true, b2i_0, b2i_1, b2i_01, up_sc, sc_at, sc_sc, ite_true, ite_false, if_true, if_false, Nat.reduceEqDiff, reduceIte]
  exact x219l ht hl 10 p hp h1 (by omega) hK
theorem x218 (ht : tree (σ 150)) {p l : Int} : Rn 218 0 [some (vR 149), some (vI p), some (vI l)] [] (T0 n) σ K ↔ K (some (vI (if ((0 ≤ p ∧ p < 40) ∧ σ 150 p = 1) ∧ (0 ≤ l ∧ l ≤ 10) then upF (σ 150) l 10 p else -1))) (T0 n) σ := by
  refine Rn_iff fun K hK => ?_
  by_cases h : ((0 ≤ p ∧ p < 40) ∧ σ 150 p = 1) ∧ (0 ≤ l ∧ l ≤ 10)
  · rw [if_pos h] at hK
    simp only [s218_0, s218_1, s218_2, s218_5, s218_8, s218_9, s218_10, s218_12, s218_15, s218_18, s218_19, s218_20, s218_21, s218_24, s218_27, s218_28, sx_push, tf, List.length_cons, List.length_nil, Option.some.injEq, exists_eq_left', Nat.reduceAdd, Nat.reduceLeDiff, true_and, and_true, true_or, or_true, Int.zero_add, Nat.zero_le, eq_self, ne_eq, not_true_eq_false, not_false_eq_true, false_implies, true_implies, implies_true, b2i_0, b2i_1, b2i_01, up_sc, sc_at, sc_sc, ite_true, ite_false, if_true, if_false, Nat.reduceEqDiff, reduceIte, x205, x185, x219 ht h.2.2 h.1.1 h.1.2]
    repeat' (first | intro _ | refine And.intro ?_ ?_)
    all_goals first | exact hK | omega
  · rw [if_neg h] at hK
    simp only [s218_0, s218_1, s218_2, s218_5, s218_8, s218_9, s218_10, s218_12, s218_15, s218_18, s218_19, s218_20, s218_21, s218_24, s218_27, s218_28, sx_push, tf, List.length_cons, List.length_nil, Option.some.injEq, exists_eq_left', Nat.reduceAdd, Nat.reduceLeDiff, true_and, and_true, true_or, or_true, Int.zero_add, Nat.zero_le, eq_self, ne_eq, not_true_eq_false, not_false_eq_true, false_implies, true_implies, implies_true, b2i_0, b2i_1, b2i_01, up_sc, sc_at, sc_sc, ite_true, ite_false, if_true, if_false, Nat.reduceEqDiff, reduceIte, x205, x185]
    repeat' (first | intro _ | refine And.intro ?_ ?_)
    all_goals first | exact hK | omega
/-- whether one is below another, by parents up -/
def belF (f : Int → Int) (q : Int) : Nat → Int → Bool
  | 0, _ => false
  | m + 1, p => if f (160 + p) < 10 then (if f (200 + p) = q then true else belF f q m (f (200 + p))) else false
theorem x211l (ht : tree (σ 150)) {q r : Int} : ∀ (m : Nat) (p : Int), (0 ≤ p ∧ p < 40) → σ 150 p = 1 → 10 ≤ σ 150 (160 + p) + m → K (some (vI (b2i (belF (σ 150) q m p = true)))) (T0 n) σ → Rn 211 2 [some (vR 149), some (vI r), some (vI q), some (vI p)] [] (T0 n) σ K := by
  intro m
  induction m with
  | zero =>
    intro p hp h1 hm hK
    rw [b2i_f (by simp [belF])] at hK
    rw [s211_2]
    simp only [s211_0, s211_1, s211_3, s211_6, s211_9, s211_10, s211_11, s211_12, s211_14, s211_17, s211_18, s211_21, s211_24, s211_25, s211_26, s211_27, s211_28, s211_29, s211_30, s211_33, s211_34, s211_35, s211_36, sx_push, tf, List.length_cons, List.length_nil, Option.some.injEq, exists_eq_left', Nat.reduceAdd, Nat.reduceLeDiff, true_and, and_true, true_or, or_true, Int.zero_add, Nat.zero_le, eq_self, ne_eq, not_true_eq_false, not_false_eq_true, false_implies, true_implies, implies_true, b2i_0, b2i_1, b2i_01, up_sc, sc_at, sc_sc, ite_true, ite_false, if_true, if_false, Nat.reduceEqDiff, reduceIte]
    repeat' (first | intro _ | refine And.intro ?_ ?_)
    all_goals first | exact hK | omega
  | succ m ih =>
    intro p hp h1 hm hK
    obtain ⟨t1, t2, t3⟩ := ht p hp.1 hp.2 h1
    rw [s211_2]
    simp only [s211_0, s211_1, s211_3, s211_6, s211_9, s211_10, s211_11, s211_12, s211_14, s211_17, s211_18, s211_21, s211_24, s211_25, s211_26, s211_27, s211_28, s211_29, s211_30, s211_33, s211_34, s211_35, s211_36, sx_push, tf, List.length_cons, List.length_nil, Option.some.injEq, exists_eq_left', Nat.reduceAdd, Nat.reduceLeDiff, true_and, and_true, true_or, or_true, Int.zero_add, Nat.zero_le, eq_self, ne_eq, not_true_eq_false, not_false_eq_true, false_implies, true_implies, implies_true, b2i_0, b2i_1, b2i_01, up_sc, sc_at, sc_sc, ite_true, ite_false, if_true, if_false, Nat.reduceEqDiff, reduceIte]
    unfold belF at hK
    by_cases c1 : σ 150 (160 + p) < 10
    · have t4 := t3 c1
      rw [if_pos c1] at hK
      by_cases c2 : σ 150 (200 + p) = q
      · rw [if_pos c2, b2i_t rfl] at hK
        repeat' (first | intro _ | refine And.intro ?_ ?_)
        all_goals first | exact hK | omega
      · rw [if_neg c2] at hK
        repeat' (first | intro _ | refine And.intro ?_ ?_)
        all_goals first | omega | exact ih _ t4.1 t4.2.1 (by omega) hK
    · rw [if_neg c1, b2i_f (by decide)] at hK
      repeat' (first | intro _ | refine And.intro ?_ ?_)
      all_goals first | exact hK | omega
theorem x211 (ht : tree (σ 150)) {p q : Int} (hp : 0 ≤ p ∧ p < 40) (h1 : σ 150 p = 1) : Rn 211 0 [some (vR 149), some (vI p), some (vI q), none] [] (T0 n) σ K ↔ K (some (vI (b2i (belF (σ 150) q 10 p = true)))) (T0 n) σ := by
  refine Rn_iff fun K hK => ?_
  have := ht p hp.1 hp.2 h1
  simp only [s211_0, s211_1, s211_3, s211_6, s211_9, s211_10, s211_11, s211_12, s211_14, s211_17, s211_18, s211_21, s211_24, s211_25, s211_26, s211_27, s211_28, s211_29, s211_30, s211_33, s211_34, s211_35, s211_36, sx_push, tf, List.length_cons, List.length_nil, Option.some.injEq, exists_eq_left', Nat.reduceAdd, Nat.reduceLeDiff, true_and, and_true, true_or, or_true, Int.zero_add, Nat.zero_le, eq_self, ne_eq, not_true_eq_false, not_false_eq_true, false_implies, true_implies, implies_true, b2i_0, b2i_1, b2i_01, up_sc, sc_at, sc_sc, ite_true, ite_false, if_true, if_false, Nat.reduceEqDiff, reduceIte]
  exact x211l ht 10 p hp h1 (by omega) hK
end M5
