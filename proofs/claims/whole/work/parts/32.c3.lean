/-! more reads of points: of the class -/
theorem rootF_sp (f : Int → Int) : ∀ (k : Nat) (p : Int), (rootF f k p = -1 ∧ ∀ q, p ≤ q → q < p + k → ¬ (f q = 1 ∧ 10 ≤ f (160 + q))) ∨ (p ≤ rootF f k p ∧ rootF f k p < p + k ∧ f (rootF f k p) = 1 ∧ 10 ≤ f (160 + rootF f k p)) := by
  intro k
  induction k with
  | zero => intro p; exact Or.inl ⟨rfl, fun q a b => by omega⟩
  | succ k ih =>
    intro p
    unfold rootF
    by_cases h : f p = 1 ∧ 10 ≤ f (160 + p)
    · rw [if_pos h]; exact Or.inr ⟨by omega, by omega, h.1, h.2⟩
    · rw [if_neg h]
      rcases ih (p + 1) with ⟨h1, h2⟩ | ⟨h1, h2, h3, h4⟩
      · refine Or.inl ⟨h1, fun q a b => ?_⟩
        by_cases e : q = p
        · subst e; exact h
        · exact h2 q (by omega) (by omega)
      · exact Or.inr ⟨by omega, by omega, h3, h4⟩
theorem root_iff {f : Int → Int} (hi : oneRoot f) (ht : tree f) {p : Int} (h0 : 0 ≤ p) (h1 : p < 40) (hp : f p = 1) : p = rootF f 40 0 ↔ f (160 + p) = 10 := by
  have tp := ht p h0 h1 hp
  rcases rootF_sp f 40 0 with ⟨e, h⟩ | ⟨a, b, c, d⟩
  · rw [e]
    constructor
    · intro z; omega
    · intro z; exact absurd ⟨hp, by omega⟩ (h p h0 (by omega))
  · have tr := ht _ a (by omega) c
    constructor
    · intro z; rw [← z] at d; omega
    · intro z; exact hi.1 p _ h0 h1 a (by omega) hp c z (by omega)
section C3
variable {n : Nat} {σ : sxS} {K : Option sxV → sxT → sxS → Prop} {o : Nat} {f : Int → Int}
theorem x47l (ho : isP o) (hr : rL σ o f) (hq : ∀ p, 0 ≤ p → p < 40 → f p = 1 → (p = σ o 5 ↔ f (160 + p) = 10)) : ∀ (k : Nat) (p a : Int), p + k = 40 → 0 ≤ p → -1 ≤ a → K (some (vI (mxF f k p a))) (T0 n) σ → Rn 47 4 [some (vR o), some (vI a), some (vI p)] [] (T0 n) σ K := by
  intro k
  induction k with
  | zero =>
    intro p a hp h0 ha hK
    rw [s47_4]
    simp only [s47_0, s47_1, s47_2, s47_3, s47_5, s47_7, s47_10, s47_11, s47_12, s47_15, s47_18, s47_19, s47_22, s47_23, s47_24, s47_25, s47_28, s47_29, s47_32, s47_33, s47_34, s47_35, s47_38, s47_41, s47_42, sx_push, tf, List.length_cons, List.length_nil, Option.some.injEq, exists_eq_left', Nat.reduceAdd, Nat.reduceLeDiff, true_and, and_true, true_or, or_true, Int.zero_add, Nat.zero_le, eq_self, ne_eq, not_true_eq_false, not_false_eq_true, false_implies, true_implies, implies_true, b2i_0, b2i_1, b2i_01, up_sc, sc_at, sc_sc, ite_true, ite_false, if_true, if_false, Nat.reduceEqDiff, reduceIte]
    repeat' (first | intro _ | refine And.intro ?_ ?_)
    all_goals first | exact hK | omega
  | succ k ih =>
    intro p a hp h0 ha hK
    have h1 : p < 40 := by omega
    unfold mxF at hK
    rw [s47_4]
    rcases hr p h0 h1 with ⟨c1, c2, c3, c4, c5, c6⟩ | ⟨c1, c2⟩
    · have hq := hq p h0 h1 c1
      simp only [s47_0, s47_1, s47_2, s47_3, s47_5, s47_7, s47_10, s47_11, s47_12, s47_15, s47_18, s47_19, s47_22, s47_23, s47_24, s47_25, s47_28, s47_29, s47_32, s47_33, s47_34, s47_35, s47_38, s47_41, s47_42, sx_push, tf, List.length_cons, List.length_nil, Option.some.injEq, exists_eq_left', Nat.reduceAdd, Nat.reduceLeDiff, true_and, and_true, true_or, or_true, Int.zero_add, Nat.zero_le, eq_self, ne_eq, not_true_eq_false, not_false_eq_true, false_implies, true_implies, implies_true, b2i_0, b2i_1, b2i_01, up_sc, sc_at, sc_sc, ite_true, ite_false, if_true, if_false, Nat.reduceEqDiff, reduceIte, tp ho, c2]
      by_cases e : f (160 + p) = 10
      · rw [if_neg (by omega)] at hK
        repeat' (first | intro _ | refine And.intro ?_ ?_)
        all_goals first | omega | exact ih _ _ (by omega) (by omega) (by omega) hK
      · rw [if_pos ⟨c1, by omega⟩] at hK
        repeat' (first | intro _ | refine And.intro ?_ ?_)
        all_goals first | omega | (rw [Int.max_eq_left (by omega)] at hK; exact ih _ _ (by omega) (by omega) (by omega) hK) | (rw [Int.max_eq_right (by omega)] at hK; exact ih _ _ (by omega) (by omega) (by omega) hK)
    · simp only [s47_0, s47_1, s47_2, s47_3, s47_5, s47_7, s47_10, s47_11, s47_12, s47_15, s47_18, s47_19, s47_22, s47_23, s47_24, s47_25, s47_28, s47_29, s47_32, s47_33, s47_34, s47_35, s47_38, s47_41, s47_42, sx_push, tf, List.length_cons, List.length_nil, Option.some.injEq, exists_eq_left', Nat.reduceAdd, Nat.reduceLeDiff, true_and, and_true, true_or, or_true, Int.zero_add, Nat.zero_le, eq_self, ne_eq, not_true_eq_false, not_false_eq_true, false_implies, true_implies, implies_true, b2i_0, b2i_1, b2i_01, up_sc, sc_at, sc_sc, ite_true, ite_false, if_true, if_false, Nat.reduceEqDiff, reduceIte, tp ho]
      rw [if_neg (by omega)] at hK
      repeat' (first | intro _ | refine And.intro ?_ ?_)
      all_goals first | omega | exact ih _ _ (by omega) (by omega) (by omega) hK
theorem x47 (ho : isP o) (hr : rL σ o f) (hq : ∀ p, 0 ≤ p → p < 40 → f p = 1 → (p = σ o 5 ↔ f (160 + p) = 10)) : Rn 47 0 [some (vR o), none, none] [] (T0 n) σ K ↔ K (some (vI (mxF f 40 0 (-1)))) (T0 n) σ := by
  refine Rn_iff fun K hK => ?_
  simp only [s47_0, s47_1, s47_2, s47_3, s47_5, s47_7, s47_10, s47_11, s47_12, s47_15, s47_18, s47_19, s47_22, s47_23, s47_24, s47_25, s47_28, s47_29, s47_32, s47_33, s47_34, s47_35, s47_38, s47_41, s47_42, sx_push, tf, List.length_cons, List.length_nil, Option.some.injEq, exists_eq_left', Nat.reduceAdd, Nat.reduceLeDiff, true_and, and_true, true_or, or_true, Int.zero_add, Nat.zero_le, eq_self, ne_eq, not_true_eq_false, not_false_eq_true, false_implies, true_implies, implies_true, b2i_0, b2i_1, b2i_01, up_sc, sc_at, sc_sc, ite_true, ite_false, if_true, if_false, Nat.reduceEqDiff, reduceIte]
  exact x47l ho hr hq 40 0 (-1) (by omega) (by omega) (by omega) hK
theorem x68l (ho : isP o) (hr : rL σ o f) (hp : rP σ o f) (ht : tree f) {q l : Int} (hl : l ≤ 10) : ∀ (m : Nat) (u s : Int), 0 ≤ u → u < 40 → f u = 1 → 10 ≤ f (160 + u) + m → 0 ≤ s → s + m ≤ 10 → K (some (vI (upF f l m u))) (T0 n) σ → Rn 68 5 [some (vR o), some (vI q), some (vI l), some (vI u), some (vI s)] [] (T0 n) σ K := by
  intro m
  induction m with
  | zero =>
    intro u s u0 u1 hu hm s0 s1 hK
    rw [s68_5]
    rcases hr u u0 u1 with ⟨c1, c2, c3, c4, c5, c6⟩ | ⟨c1, c2⟩
    · simp only [s68_0, s68_1, s68_2, s68_3, s68_7, s68_9, s68_12, s68_13, s68_14, s68_17, s68_20, s68_21, s68_24, s68_25, s68_26, s68_27, s68_30, s68_31, s68_32, s68_33, s68_36, s68_37, s68_38, s68_39, s68_42, s68_45, s68_46, sx_push, tf, List.length_cons, List.length_nil, Option.some.injEq, exists_eq_left', Nat.reduceAdd, Nat.reduceLeDiff, true_and, and_true, true_or, or_true, Int.zero_add, Nat.zero_le, eq_self, ne_eq, not_true_eq_false, not_false_eq_true, false_implies, true_implies, implies_true, b2i_0, b2i_1, b2i_01, up_sc, sc_at, sc_sc, ite_true, ite_false, if_true, if_false, Nat.reduceEqDiff, reduceIte, tp ho, x49 ho hr, c2, hp u u0 u1 hu]
      repeat' (first | intro _ | refine And.intro ?_ ?_)
      all_goals first | exact hK | omega
    · omega
  | succ m ih =>
    intro u s u0 u1 hu hm s0 s1 hK
    unfold upF at hK
    rw [s68_5]
    have t1 := ht u u0 u1 hu
    rcases hr u u0 u1 with ⟨c1, c2, c3, c4, c5, c6⟩ | ⟨c1, c2⟩
    · simp only [s68_0, s68_1, s68_2, s68_3, s68_7, s68_9, s68_12, s68_13, s68_14, s68_17, s68_20, s68_21, s68_24, s68_25, s68_26, s68_27, s68_30, s68_31, s68_32, s68_33, s68_36, s68_37, s68_38, s68_39, s68_42, s68_45, s68_46, sx_push, tf, List.length_cons, List.length_nil, Option.some.injEq, exists_eq_left', Nat.reduceAdd, Nat.reduceLeDiff, true_and, and_true, true_or, or_true, Int.zero_add, Nat.zero_le, eq_self, ne_eq, not_true_eq_false, not_false_eq_true, false_implies, true_implies, implies_true, b2i_0, b2i_1, b2i_01, up_sc, sc_at, sc_sc, ite_true, ite_false, if_true, if_false, Nat.reduceEqDiff, reduceIte, tp ho, x49 ho hr, c2, hp u u0 u1 hu]
      by_cases e : f (160 + u) < l
      · rw [if_pos e] at hK
        have t2 := t1.2.2 (by omega)
        repeat' (first | intro _ | refine And.intro ?_ ?_)
        all_goals first | omega | exact ih _ _ t2.1.1 t2.1.2 t2.2.1 (by omega) (by omega) (by omega) hK
      · rw [if_neg e] at hK
        repeat' (first | intro _ | refine And.intro ?_ ?_)
        all_goals first | exact hK | omega
    · omega
theorem x68 (ho : isP o) (hr : rL σ o f) (hp : rP σ o f) (ht : tree f) {q l : Int} (hl : l ≤ 10) (q0 : 0 ≤ q) (q1 : q < 40) (hq : f q = 1) : Rn 68 0 [some (vR o), some (vI q), some (vI l), none, none] [] (T0 n) σ K ↔ K (some (vI (upF f l 10 q))) (T0 n) σ := by
  refine Rn_iff fun K hK => ?_
  have t1 := ht q q0 q1 hq
  simp only [s68_0, s68_1, s68_2, s68_3, s68_7, s68_9, s68_12, s68_13, s68_14, s68_17, s68_20, s68_21, s68_24, s68_25, s68_26, s68_27, s68_30, s68_31, s68_32, s68_33, s68_36, s68_37, s68_38, s68_39, s68_42, s68_45, s68_46, sx_push, tf, List.length_cons, List.length_nil, Option.some.injEq, exists_eq_left', Nat.reduceAdd, Nat.reduceLeDiff, true_and, and_true, true_or, or_true, Int.zero_add, Nat.zero_le, eq_self, ne_eq, not_true_eq_false, not_false_eq_true, false_implies, true_implies, implies_true, b2i_0, b2i_1, b2i_01, up_sc, sc_at, sc_sc, ite_true, ite_false, if_true, if_false, Nat.reduceEqDiff, reduceIte]
  exact x68l ho hr hp ht hl 10 q 0 q0 q1 hq (by omega) (by omega) (by omega) hK
/-- the child of p that is u, or that u is below of -/
def brF (f : Int → Int) (p : Int) : Nat → Int → Int
  | 0, _ => -1
  | m + 1, u => if f (200 + u) = p then u else if f (160 + u) < 10 then brF f p m (f (200 + u)) else -1
def brO (f : Int → Int) (p q : Int) : Int := if (0 ≤ q ∧ q < 40) ∧ f q = 1 then brF f p 11 q else -1
theorem x56e (ho : isP o) (hr : rL σ o f) {q p s : Int} (hK : K (some (vI (-1))) (T0 n) σ) : Rn 56 5 [some (vR o), some (vI q), some (vI p), some (vI (-1)), some (vI s)] [] (T0 n) σ K := by
  rw [s56_5]
  simp only [s56_0, s56_1, s56_2, s56_3, s56_7, s56_9, s56_12, s56_13, s56_14, s56_17, s56_20, s56_21, s56_24, s56_25, s56_26, s56_27, s56_30, s56_31, s56_32, s56_33, s56_36, s56_37, s56_38, s56_39, s56_42, s56_45, s56_46, sx_push, tf, List.length_cons, List.length_nil, Option.some.injEq, exists_eq_left', Nat.reduceAdd, Nat.reduceLeDiff, true_and, and_true, true_or, or_true, Int.zero_add, Nat.zero_le, eq_self, ne_eq, not_true_eq_false, not_false_eq_true, false_implies, true_implies, implies_true, b2i_0, b2i_1, b2i_01, up_sc, sc_at, sc_sc, ite_true, ite_false, if_true, if_false, Nat.reduceEqDiff, reduceIte, tp ho, x49 ho hr]
  repeat' (first | intro _ | refine And.intro ?_ ?_)
  all_goals first | exact hK | omega
theorem x56l (ho : isP o) (hr : rL σ o f) (hp : rP σ o f) (ht : tree f) (hz : rtP f) {q p : Int} (hpp : 0 ≤ p) : ∀ (m : Nat) (u s : Int), 0 ≤ u → u < 40 → f u = 1 → 0 ≤ s → s + m = 11 → K (some (vI (brF f p m u))) (T0 n) σ → Rn 56 5 [some (vR o), some (vI q), some (vI p), some (vI u), some (vI s)] [] (T0 n) σ K := by
  intro m
  induction m with
  | zero =>
    intro u s u0 u1 hu s0 s1 hK
    rw [s56_5]
    simp only [s56_0, s56_1, s56_2, s56_3, s56_7, s56_9, s56_12, s56_13, s56_14, s56_17, s56_20, s56_21, s56_24, s56_25, s56_26, s56_27, s56_30, s56_31, s56_32, s56_33, s56_36, s56_37, s56_38, s56_39, s56_42, s56_45, s56_46, sx_push, tf, List.length_cons, List.length_nil, Option.some.injEq, exists_eq_left', Nat.reduceAdd, Nat.reduceLeDiff, true_and, and_true, true_or, or_true, Int.zero_add, Nat.zero_le, eq_self, ne_eq, not_true_eq_false, not_false_eq_true, false_implies, true_implies, implies_true, b2i_0, b2i_1, b2i_01, up_sc, sc_at, sc_sc, ite_true, ite_false, if_true, if_false, Nat.reduceEqDiff, reduceIte]
    repeat' (first | intro _ | refine And.intro ?_ ?_)
    all_goals first | exact hK | omega
  | succ m ih =>
    intro u s u0 u1 hu s0 s1 hK
    unfold brF at hK
    rw [s56_5]
    have t1 := ht u u0 u1 hu
    have z1 := hz u u0 u1 hu
    rcases hr u u0 u1 with ⟨c1, c2, c3, c4, c5, c6⟩ | ⟨c1, c2⟩
    · simp only [s56_0, s56_1, s56_2, s56_3, s56_7, s56_9, s56_12, s56_13, s56_14, s56_17, s56_20, s56_21, s56_24, s56_25, s56_26, s56_27, s56_30, s56_31, s56_32, s56_33, s56_36, s56_37, s56_38, s56_39, s56_42, s56_45, s56_46, sx_push, tf, List.length_cons, List.length_nil, Option.some.injEq, exists_eq_left', Nat.reduceAdd, Nat.reduceLeDiff, true_and, and_true, true_or, or_true, Int.zero_add, Nat.zero_le, eq_self, ne_eq, not_true_eq_false, not_false_eq_true, false_implies, true_implies, implies_true, b2i_0, b2i_1, b2i_01, up_sc, sc_at, sc_sc, ite_true, ite_false, if_true, if_false, Nat.reduceEqDiff, reduceIte, tp ho, x49 ho hr, hp u u0 u1 hu]
      by_cases e : f (200 + u) = p
      · rw [if_pos e] at hK
        repeat' (first | intro _ | refine And.intro ?_ ?_)
        all_goals first | exact hK | omega
      · rw [if_neg e] at hK
        by_cases e2 : f (160 + u) < 10
        · rw [if_pos e2] at hK
          have t2 := t1.2.2 e2
          repeat' (first | intro _ | refine And.intro ?_ ?_)
          all_goals first | omega | exact ih _ _ t2.1.1 t2.1.2 t2.2.1 (by omega) (by omega) hK
        · rw [if_neg e2] at hK
          rw [z1 (by omega)]
          repeat' (first | intro _ | refine And.intro ?_ ?_)
          all_goals first | omega | exact x56e ho hr hK
    · omega
theorem x56 (ho : isP o) (hr : rL σ o f) (hp : rP σ o f) (ht : tree f) (hz : rtP f) {q p : Int} (hpp : 0 ≤ p) : Rn 56 0 [some (vR o), some (vI q), some (vI p), none, none] [] (T0 n) σ K ↔ K (some (vI (brO f p q))) (T0 n) σ := by
  refine Rn_iff fun K hK => ?_
  unfold brO at hK
  by_cases h : (0 ≤ q ∧ q < 40) ∧ f q = 1
  · rw [if_pos h] at hK
    simp only [s56_0, s56_1, s56_2, s56_3, s56_7, s56_9, s56_12, s56_13, s56_14, s56_17, s56_20, s56_21, s56_24, s56_25, s56_26, s56_27, s56_30, s56_31, s56_32, s56_33, s56_36, s56_37, s56_38, s56_39, s56_42, s56_45, s56_46, sx_push, tf, List.length_cons, List.length_nil, Option.some.injEq, exists_eq_left', Nat.reduceAdd, Nat.reduceLeDiff, true_and, and_true, true_or, or_true, Int.zero_add, Nat.zero_le, eq_self, ne_eq, not_true_eq_false, not_false_eq_true, false_implies, true_implies, implies_true, b2i_0, b2i_1, b2i_01, up_sc, sc_at, sc_sc, ite_true, ite_false, if_true, if_false, Nat.reduceEqDiff, reduceIte]
    exact x56l ho hr hp ht hz hpp 11 q 0 h.1.1 h.1.2 h.2 (by omega) (by omega) hK
  · rw [if_neg h] at hK
    simp only [s56_0, s56_1, s56_2, s56_3, s56_7, s56_9, s56_12, s56_13, s56_14, s56_17, s56_20, s56_21, s56_24, s56_25, s56_26, s56_27, s56_30, s56_31, s56_32, s56_33, s56_36, s56_37, s56_38, s56_39, s56_42, s56_45, s56_46, sx_push, tf, List.length_cons, List.length_nil, Option.some.injEq, exists_eq_left', Nat.reduceAdd, Nat.reduceLeDiff, true_and, and_true, true_or, or_true, Int.zero_add, Nat.zero_le, eq_self, ne_eq, not_true_eq_false, not_false_eq_true, false_implies, true_implies, implies_true, b2i_0, b2i_1, b2i_01, up_sc, sc_at, sc_sc, ite_true, ite_false, if_true, if_false, Nat.reduceEqDiff, reduceIte]
    rw [s56_5]
    simp only [s56_0, s56_1, s56_2, s56_3, s56_7, s56_9, s56_12, s56_13, s56_14, s56_17, s56_20, s56_21, s56_24, s56_25, s56_26, s56_27, s56_30, s56_31, s56_32, s56_33, s56_36, s56_37, s56_38, s56_39, s56_42, s56_45, s56_46, sx_push, tf, List.length_cons, List.length_nil, Option.some.injEq, exists_eq_left', Nat.reduceAdd, Nat.reduceLeDiff, true_and, and_true, true_or, or_true, Int.zero_add, Nat.zero_le, eq_self, ne_eq, not_true_eq_false, not_false_eq_true, false_implies, true_implies, implies_true, b2i_0, b2i_1, b2i_01, up_sc, sc_at, sc_sc, ite_true, ite_false, if_true, if_false, Nat.reduceEqDiff, reduceIte, tp ho, x49 ho hr]
    repeat' (first | intro _ | refine And.intro ?_ ?_)
    all_goals first | exact hK | omega
theorem br_bel (ht : tree f) (hz : rtP f) {p : Int} (hpp : 0 ≤ p) : ∀ (m : Nat) (u : Int), 0 ≤ u → u < 40 → f u = 1 → 10 ≤ f (160 + u) + m → (brF f p (m + 1) u ≠ -1 ↔ belF f p m u = true) := by
  intro m
  induction m with
  | zero =>
    intro u u0 u1 hu hm
    have t1 := ht u u0 u1 hu
    have z1 := hz u u0 u1 hu (by omega)
    unfold brF belF
    rw [if_neg (by omega), if_neg (by omega)]
    simp
  | succ m ih =>
    intro u u0 u1 hu hm
    have t1 := ht u u0 u1 hu
    have z1 := hz u u0 u1 hu
    unfold brF belF
    by_cases e : f (160 + u) < 10
    · rw [if_pos e]
      by_cases e2 : f (200 + u) = p
      · rw [if_pos e2, if_pos e2]; simp; omega
      · rw [if_neg e2, if_neg e2, if_pos e]
        have t2 := t1.2.2 e
        exact ih _ t2.1.1 t2.1.2 t2.2.1 (by omega)
    · rw [if_neg e, if_neg e, if_neg (by have := z1 (by omega); omega)]
      simp
theorem br_bel' (ht : tree f) (hz : rtP f) {p q : Int} (hpp : 0 ≤ p) (q0 : 0 ≤ q) (q1 : q < 40) : brO f p q ≠ -1 ↔ (f q = 1 ∧ belF f p 10 q = true) := by
  unfold brO
  by_cases h : f q = 1
  · rw [if_pos ⟨⟨q0, q1⟩, h⟩]
    have t1 := ht q q0 q1 h
    rw [br_bel ht hz hpp 10 q q0 q1 h (by omega)]
    simp [h]
  · rw [if_neg (fun z => h z.2)]
    simp [h]
theorem x55l (ho : isP o) (hr : rL σ o f) (hp : rP σ o f) (ht : tree f) (hz : rtP f) {q : Int} (hq : 0 ≤ q) : ∀ (k : Nat) (p a : Int), p + k = 40 → 0 ≤ p → 0 ≤ a → a ≤ p → K (some (vI (cnt (fun p => decide (f p = 1 ∧ belF f q 10 p = true)) k p a))) (T0 n) σ → Rn 55 4 [some (vR o), some (vI q), some (vI a), some (vI p)] [] (T0 n) σ K := by
  intro k
  induction k with
  | zero =>
    intro p a hp h0 ha ha' hK
    rw [s55_4]
    simp only [s55_0, s55_1, s55_2, s55_3, s55_5, s55_7, s55_10, s55_11, s55_12, s55_13, s55_16, s55_17, s55_20, s55_23, s55_26, s55_29, s55_30, sx_push, tf, List.length_cons, List.length_nil, Option.some.injEq, exists_eq_left', Nat.reduceAdd, Nat.reduceLeDiff, true_and, and_true, true_or, or_true, Int.zero_add, Nat.zero_le, eq_self, ne_eq, not_true_eq_false, not_false_eq_true, false_implies, true_implies, implies_true, b2i_0, b2i_1, b2i_01, up_sc, sc_at, sc_sc, ite_true, ite_false, if_true, if_false, Nat.reduceEqDiff, reduceIte]
    repeat' (first | intro _ | refine And.intro ?_ ?_)
    all_goals first | exact hK | omega
  | succ k ih =>
    intro p a hp' h0 ha ha' hK
    have h1 : p < 40 := by omega
    have e := br_bel' ht hz hq h0 h1
    unfold cnt at hK
    simp only [decide_eq_true_eq] at hK
    rw [s55_4]
    simp only [s55_0, s55_1, s55_2, s55_3, s55_5, s55_7, s55_10, s55_11, s55_12, s55_13, s55_16, s55_17, s55_20, s55_23, s55_26, s55_29, s55_30, sx_push, tf, List.length_cons, List.length_nil, Option.some.injEq, exists_eq_left', Nat.reduceAdd, Nat.reduceLeDiff, true_and, and_true, true_or, or_true, Int.zero_add, Nat.zero_le, eq_self, ne_eq, not_true_eq_false, not_false_eq_true, false_implies, true_implies, implies_true, b2i_0, b2i_1, b2i_01, up_sc, sc_at, sc_sc, ite_true, ite_false, if_true, if_false, Nat.reduceEqDiff, reduceIte, tp ho, x56 ho hr hp ht hz hq]
    by_cases c : f p = 1 ∧ belF f q 10 p = true
    · rw [if_pos c] at hK
      have e := e.mpr c
      repeat' (first | intro _ | refine And.intro ?_ ?_)
      all_goals first | omega | exact ih _ _ (by omega) (by omega) (by omega) (by omega) hK | contradiction
    · rw [if_neg c] at hK
      have e : brO f q p = -1 := Decidable.byContradiction fun z => c (e.mp z)
      repeat' (first | intro _ | refine And.intro ?_ ?_)
      all_goals first | omega | exact ih _ _ (by omega) (by omega) (by omega) (by omega) hK | contradiction
theorem x55 (ho : isP o) (hr : rL σ o f) (hp : rP σ o f) (ht : tree f) (hz : rtP f) {q : Int} (hq : 0 ≤ q) : Rn 55 0 [some (vR o), some (vI q), none, none] [] (T0 n) σ K ↔ K (some (vI (cnt (fun p => decide (f p = 1 ∧ belF f q 10 p = true)) 40 0 0))) (T0 n) σ := by
  refine Rn_iff fun K hK => ?_
  simp only [s55_0, s55_1, s55_2, s55_3, s55_5, s55_7, s55_10, s55_11, s55_12, s55_13, s55_16, s55_17, s55_20, s55_23, s55_26, s55_29, s55_30, sx_push, tf, List.length_cons, List.length_nil, Option.some.injEq, exists_eq_left', Nat.reduceAdd, Nat.reduceLeDiff, true_and, and_true, true_or, or_true, Int.zero_add, Nat.zero_le, eq_self, ne_eq, not_true_eq_false, not_false_eq_true, false_implies, true_implies, implies_true, b2i_0, b2i_1, b2i_01, up_sc, sc_at, sc_sc, ite_true, ite_false, if_true, if_false, Nat.reduceEqDiff, reduceIte]
  exact x55l ho hr hp ht hz hq 40 0 0 (by omega) (by omega) (by omega) (by omega) hK
/-- how many children -/
def chM (f : Int → Int) (q : Int) : Int := cnt (fun p => decide (f p = 1 ∧ f (160 + p) < 10 ∧ f (200 + p) = q)) 40 0 0
def bizF (f : Int → Int) : Nat → Int → Int → Int
  | 0, _, b => b
  | k + 1, p, b => bizF f k (p + 1) (if f p = 1 ∧ (b = -1 ∨ chM f b < chM f p) then p else b)
theorem chM_in (f : Int → Int) (q : Int) : 0 ≤ chM f q ∧ chM f q ≤ 40 := by
  have := cnt_in (fun p => decide (f p = 1 ∧ f (160 + p) < 10 ∧ f (200 + p) = q)) 40 0 0
  unfold chM; omega
theorem x54c (ho : isP o) (hr : rL σ o f) (hp : rP σ o f) (ht : rtP f) {q : Int} (hq : 0 ≤ q) : Rn 54 0 [some (vR o), some (vI q), none, none] [] (T0 n) σ K ↔ K (some (vI (chM f q))) (T0 n) σ := x54 ho hr hp ht hq
theorem x75l (ho : isP o) (hr : rL σ o f) (hp : rP σ o f) (ht : rtP f) : ∀ (k : Nat) (p b c : Int), p + k = 40 → 0 ≤ p → ((b = -1 ∧ c = -1) ∨ (0 ≤ b ∧ c = chM f b)) → K (some (vI (bizF f k p b))) (T0 n) σ → Rn 75 6 [some (vR o), some (vI b), some (vI c), some (vI p)] [] (T0 n) σ K := by
  intro k
  induction k with
  | zero =>
    intro p b c hp h0 hb hK
    rw [s75_6]
    simp only [s75_0, s75_1, s75_2, s75_3, s75_4, s75_5, s75_7, s75_9, s75_12, s75_13, s75_16, s75_17, s75_18, s75_21, s75_22, s75_23, s75_26, s75_27, s75_30, s75_31, s75_32, s75_33, s75_34, s75_37, s75_38, s75_41, s75_44, s75_45, sx_push, tf, List.length_cons, List.length_nil, Option.some.injEq, exists_eq_left', Nat.reduceAdd, Nat.reduceLeDiff, true_and, and_true, true_or, or_true, Int.zero_add, Nat.zero_le, eq_self, ne_eq, not_true_eq_false, not_false_eq_true, false_implies, true_implies, implies_true, b2i_0, b2i_1, b2i_01, up_sc, sc_at, sc_sc, ite_true, ite_false, if_true, if_false, Nat.reduceEqDiff, reduceIte]
    repeat' (first | intro _ | refine And.intro ?_ ?_)
    all_goals first | exact hK | omega
  | succ k ih =>
    intro p b c hp' h0 hb hK
    have h1 : p < 40 := by omega
    have ci := chM_in f p
    unfold bizF at hK
    rw [s75_6]
    rcases hr p h0 h1 with ⟨c1, c2, c3, c4, c5, c6⟩ | ⟨c1, c2⟩
    · simp only [s75_0, s75_1, s75_2, s75_3, s75_4, s75_5, s75_7, s75_9, s75_12, s75_13, s75_16, s75_17, s75_18, s75_21, s75_22, s75_23, s75_26, s75_27, s75_30, s75_31, s75_32, s75_33, s75_34, s75_37, s75_38, s75_41, s75_44, s75_45, sx_push, tf, List.length_cons, List.length_nil, Option.some.injEq, exists_eq_left', Nat.reduceAdd, Nat.reduceLeDiff, true_and, and_true, true_or, or_true, Int.zero_add, Nat.zero_le, eq_self, ne_eq, not_true_eq_false, not_false_eq_true, false_implies, true_implies, implies_true, b2i_0, b2i_1, b2i_01, up_sc, sc_at, sc_sc, ite_true, ite_false, if_true, if_false, Nat.reduceEqDiff, reduceIte, tp ho, c2, x54c ho hr hp ht h0]
      repeat' (first | intro _ | refine And.intro ?_ ?_)
      all_goals first | omega | (split at hK <;> first | omega | exact ih _ _ _ (by omega) (by omega) (Or.inr ⟨h0, rfl⟩) hK | exact ih _ _ _ (by omega) (by omega) hb hK)
    · simp only [s75_0, s75_1, s75_2, s75_3, s75_4, s75_5, s75_7, s75_9, s75_12, s75_13, s75_16, s75_17, s75_18, s75_21, s75_22, s75_23, s75_26, s75_27, s75_30, s75_31, s75_32, s75_33, s75_34, s75_37, s75_38, s75_41, s75_44, s75_45, sx_push, tf, List.length_cons, List.length_nil, Option.some.injEq, exists_eq_left', Nat.reduceAdd, Nat.reduceLeDiff, true_and, and_true, true_or, or_true, Int.zero_add, Nat.zero_le, eq_self, ne_eq, not_true_eq_false, not_false_eq_true, false_implies, true_implies, implies_true, b2i_0, b2i_1, b2i_01, up_sc, sc_at, sc_sc, ite_true, ite_false, if_true, if_false, Nat.reduceEqDiff, reduceIte, tp ho]
      rw [if_neg (by omega)] at hK
      repeat' (first | intro _ | refine And.intro ?_ ?_)
      all_goals first | omega | exact ih _ _ _ (by omega) (by omega) hb hK
theorem x75 (ho : isP o) (hr : rL σ o f) (hp : rP σ o f) (ht : rtP f) : Rn 75 0 [some (vR o), none, none, none] [] (T0 n) σ K ↔ K (some (vI (bizF f 40 0 (-1)))) (T0 n) σ := by
  refine Rn_iff fun K hK => ?_
  simp only [s75_0, s75_1, s75_2, s75_3, s75_4, s75_5, s75_7, s75_9, s75_12, s75_13, s75_16, s75_17, s75_18, s75_21, s75_22, s75_23, s75_26, s75_27, s75_30, s75_31, s75_32, s75_33, s75_34, s75_37, s75_38, s75_41, s75_44, s75_45, sx_push, tf, List.length_cons, List.length_nil, Option.some.injEq, exists_eq_left', Nat.reduceAdd, Nat.reduceLeDiff, true_and, and_true, true_or, or_true, Int.zero_add, Nat.zero_le, eq_self, ne_eq, not_true_eq_false, not_false_eq_true, false_implies, true_implies, implies_true, b2i_0, b2i_1, b2i_01, up_sc, sc_at, sc_sc, ite_true, ite_false, if_true, if_false, Nat.reduceEqDiff, reduceIte]
  exact x75l ho hr hp ht 40 0 (-1) (-1) (by omega) (by omega) (Or.inl ⟨rfl, rfl⟩) hK
def nthL : List Int → Int → Int
  | [], _ => -1
  | q :: L, k => if k = 0 then q else nthL L (k - 1)
theorem x60i (ho : isP o) (hr : rL σ o f) (hp : rP σ o f) {g kk lv : Int} {m : Nat} (hki : inI kk) (hlv : 0 ≤ lv) (hend : ∀ l : Int, 0 ≤ l → l ≤ kk → K (some (vI (nthL (kl f g m (lv - 1)) l))) (T0 n) σ → Rn 60 60 [some (vR o), some (vI g), some (vI kk), some (vI l), some (vI lv), some (vI 40)] [] (T0 n) σ K) : ∀ (k : Nat) (q l : Int), q + k = 40 → 0 ≤ q → 0 ≤ l → l ≤ kk → K (some (vI (nthL (kq f g lv k q ++ kl f g m (lv - 1)) l))) (T0 n) σ → Rn 60 14 [some (vR o), some (vI g), some (vI kk), some (vI l), some (vI lv), some (vI q)] [] (T0 n) σ K := by
  intro k
  induction k with
  | zero =>
    intro q l hq q0 l0 l1 hK
    obtain rfl : q = 40 := by omega
    rw [s60_14]
    simp only [s60_16, s60_18, s60_21, s60_22, s60_25, s60_27, s60_28, s60_30, s60_33, s60_34, s60_37, s60_39, s60_40, s60_41, s60_44, s60_45, s60_48, s60_50, s60_51, s60_54, s60_57, sx_push, tf, List.length_cons, List.length_nil, Option.some.injEq, exists_eq_left', Nat.reduceAdd, Nat.reduceLeDiff, true_and, and_true, true_or, or_true, Int.zero_add, Nat.zero_le, eq_self, ne_eq, not_true_eq_false, not_false_eq_true, false_implies, true_implies, implies_true, b2i_0, b2i_1, b2i_01, up_sc, sc_at, sc_sc, ite_true, ite_false, if_true, if_false, Nat.reduceEqDiff, reduceIte]
    repeat' (first | intro _ | refine And.intro ?_ ?_)
    all_goals first | omega | exact hend _ l0 l1 hK
  | succ k ih =>
    intro q l hq q0 l0 l1 hK
    have q1 : q < 40 := by omega
    unfold kq at hK
    rw [s60_14]
    have e : l + -1 = l - 1 := by omega
    rcases hr q q0 q1 with ⟨c1, c2, c3, c4, c5, c6⟩ | ⟨c1, c2⟩
    · simp only [s60_16, s60_18, s60_21, s60_22, s60_25, s60_27, s60_28, s60_30, s60_33, s60_34, s60_37, s60_39, s60_40, s60_41, s60_44, s60_45, s60_48, s60_50, s60_51, s60_54, s60_57, sx_push, tf, List.length_cons, List.length_nil, Option.some.injEq, exists_eq_left', Nat.reduceAdd, Nat.reduceLeDiff, true_and, and_true, true_or, or_true, Int.zero_add, Nat.zero_le, eq_self, ne_eq, not_true_eq_false, not_false_eq_true, false_implies, true_implies, implies_true, b2i_0, b2i_1, b2i_01, up_sc, sc_at, sc_sc, ite_true, ite_false, if_true, if_false, Nat.reduceEqDiff, reduceIte, tp ho, c2, hp q q0 q1 c1, e]
      by_cases c : f q = 1 ∧ f (160 + q) = lv ∧ f (200 + q) = g
      · rw [if_pos c, List.cons_append] at hK
        unfold nthL at hK
        repeat' (first | intro _ | refine And.intro ?_ ?_)
        all_goals first | omega | (split at hK <;> first | exact hK | omega | exact ih _ _ (by omega) (by omega) (by omega) (by omega) hK)
      · rw [if_neg c] at hK
        repeat' (first | intro _ | refine And.intro ?_ ?_)
        all_goals first | omega | exact ih _ _ (by omega) (by omega) (by omega) (by omega) hK
    · simp only [s60_16, s60_18, s60_21, s60_22, s60_25, s60_27, s60_28, s60_30, s60_33, s60_34, s60_37, s60_39, s60_40, s60_41, s60_44, s60_45, s60_48, s60_50, s60_51, s60_54, s60_57, sx_push, tf, List.length_cons, List.length_nil, Option.some.injEq, exists_eq_left', Nat.reduceAdd, Nat.reduceLeDiff, true_and, and_true, true_or, or_true, Int.zero_add, Nat.zero_le, eq_self, ne_eq, not_true_eq_false, not_false_eq_true, false_implies, true_implies, implies_true, b2i_0, b2i_1, b2i_01, up_sc, sc_at, sc_sc, ite_true, ite_false, if_true, if_false, Nat.reduceEqDiff, reduceIte, tp ho]
      rw [if_neg (by omega)] at hK
      repeat' (first | intro _ | refine And.intro ?_ ?_)
      all_goals first | omega | exact ih _ _ (by omega) (by omega) (by omega) (by omega) hK
theorem x60l (ho : isP o) (hr : rL σ o f) (hp : rP σ o f) {g kk : Int} (hk : inI kk) : ∀ (m : Nat) (lv l : Int) (u : Option sxV), lv + 1 = m → lv ≤ 9 → 0 ≤ l → l ≤ kk → K (some (vI (nthL (kl f g m lv) l))) (T0 n) σ → Rn 60 6 [some (vR o), some (vI g), some (vI kk), some (vI l), some (vI lv), u] [] (T0 n) σ K := by
  intro m
  induction m with
  | zero =>
    intro lv l u hm h9 l0 l1 hK
    rw [s60_6]
    simp only [s60_8, s60_11, s60_12, s60_66, s60_67, sx_push, tf, List.length_cons, List.length_nil, Option.some.injEq, exists_eq_left', Nat.reduceAdd, Nat.reduceLeDiff, true_and, and_true, true_or, or_true, Int.zero_add, Nat.zero_le, eq_self, ne_eq, not_true_eq_false, not_false_eq_true, false_implies, true_implies, implies_true, b2i_0, b2i_1, b2i_01, up_sc, sc_at, sc_sc, ite_true, ite_false, if_true, if_false, Nat.reduceEqDiff, reduceIte]
    repeat' (first | intro _ | refine And.intro ?_ ?_)
    all_goals first | exact hK | omega
  | succ m ih =>
    intro lv l u hm h9 l0 l1 hK
    rw [s60_6]
    simp only [s60_8, s60_11, s60_12, s60_66, s60_67, sx_push, tf, List.length_cons, List.length_nil, Option.some.injEq, exists_eq_left', Nat.reduceAdd, Nat.reduceLeDiff, true_and, and_true, true_or, or_true, Int.zero_add, Nat.zero_le, eq_self, ne_eq, not_true_eq_false, not_false_eq_true, false_implies, true_implies, implies_true, b2i_0, b2i_1, b2i_01, up_sc, sc_at, sc_sc, ite_true, ite_false, if_true, if_false, Nat.reduceEqDiff, reduceIte]
    unfold kl at hK
    have e : lv + -1 = lv - 1 := by omega
    repeat' (first | intro _ | refine And.intro ?_ ?_)
    all_goals first | omega | skip
    refine x60i ho hr hp hk (by omega) (fun l' a b hK' => ?_) 40 0 l (by omega) (by omega) l0 l1 hK
    simp only [s60_60, s60_63, sx_push, tf, List.length_cons, List.length_nil, Option.some.injEq, exists_eq_left', Nat.reduceAdd, Nat.reduceLeDiff, true_and, and_true, true_or, or_true, Int.zero_add, Nat.zero_le, eq_self, ne_eq, not_true_eq_false, not_false_eq_true, false_implies, true_implies, implies_true, b2i_0, b2i_1, b2i_01, up_sc, sc_at, sc_sc, ite_true, ite_false, if_true, if_false, Nat.reduceEqDiff, reduceIte, e]
    repeat' (first | intro _ | refine And.intro ?_ ?_)
    all_goals first | omega | exact ih _ _ _ (by omega) (by omega) a b hK'
theorem x60 (ho : isP o) (hr : rL σ o f) (hp : rP σ o f) {g kk : Int} (hk : inI kk) (hk0 : 0 ≤ kk) : Rn 60 0 [some (vR o), some (vI g), some (vI kk), none, none, none] [] (T0 n) σ K ↔ K (some (vI (nthL (kids f g) kk))) (T0 n) σ := by
  refine Rn_iff fun K hK => ?_
  simp only [s60_0, s60_1, s60_2, s60_4, s60_8, s60_11, s60_12, s60_16, s60_18, s60_21, s60_22, s60_25, s60_27, s60_28, s60_30, s60_33, s60_34, s60_37, s60_39, s60_40, s60_41, s60_44, s60_45, s60_48, s60_50, s60_51, s60_54, s60_57, s60_60, s60_63, s60_66, s60_67, sx_push, tf, List.length_cons, List.length_nil, Option.some.injEq, exists_eq_left', Nat.reduceAdd, Nat.reduceLeDiff, true_and, and_true, true_or, or_true, Int.zero_add, Nat.zero_le, eq_self, ne_eq, not_true_eq_false, not_false_eq_true, false_implies, true_implies, implies_true, b2i_0, b2i_1, b2i_01, up_sc, sc_at, sc_sc, ite_true, ite_false, if_true, if_false, Nat.reduceEqDiff, reduceIte]
  exact x60l ho hr hp hk 10 9 kk none (by omega) (by omega) hk0 (by omega) hK
end C3
