/-! how loose nets are, and the reads that one may call: of the class -/
section C5
variable {n : Nat} {σ : sxS} {K : Option sxV → sxT → sxS → Prop} {o : Nat} {f : Int → Int}
theorem x62o (ho : isP o) (hr : rL σ o f) (hw : wfc f) {p q : Int} (h0 : 0 ≤ p) (h1 : p < 40) (hp : f p = 1) (g0 : 0 ≤ q) (g1 : q < 40) (hq : f q = 1) : Rn 62 0 [some (vR o), some (vI p), some (vI q)] [] (T0 n) σ K ↔ K (some (vI (farO f p q))) (T0 n) σ := x62 ho hr hw h0 h1 hp g0 g1 hq
theorem rL7 (hr : rL σ 7 f) : ∀ p, 0 ≤ p → p < 40 → (f p = 1 ∧ σ 9 p = f (160 + p) ∧ 0 ≤ f (160 + p) ∧ f (160 + p) ≤ 10 ∧ σ 8 p = pk (f (40 + p)) (f (80 + p)) (f (120 + p)) ∧ σ 7 4 = f 480) ∨ (f p = 0 ∧ σ 9 p < 0) := hr
theorem rP7 (hp : rP σ 7 f) : ∀ p, 0 ≤ p → p < 40 → f p = 1 → σ 10 p = f (200 + p) := hp
theorem x70i (hr : rL σ 7 f) (hw : wfc f) {l p : Int} (hl : 0 ≤ l) (h0 : 0 ≤ p) (h1 : p < 40) : ∀ (k : Nat) (q a : Int) (u : Option sxV), q + k = 40 → 0 ≤ q → (∀ u, Rn 70 84 [some (vR 133), some (vI l), some (vI (lfI f l p k q a)), some (vI p), some (vI 40), u] [] (T0 n) σ K) → Rn 70 15 [some (vR 133), some (vI l), some (vI a), some (vI p), some (vI q), u] [] (T0 n) σ K := by
  intro k
  induction k with
  | zero =>
    intro q a u hq q0 hK
    obtain rfl : q = 40 := by omega
    rw [s70_15]
    simp only [s70_17, s70_19, s70_22, s70_23, s70_26, s70_29, s70_30, s70_31, s70_32, s70_35, s70_36, s70_39, s70_42, s70_44, s70_45, s70_46, s70_49, s70_50, s70_53, s70_54, s70_56, s70_59, s70_61, s70_62, s70_63, s70_66, s70_68, s70_71, s70_72, s70_74, s70_77, s70_78, s70_81, sx_push, tf, List.length_cons, List.length_nil, Option.some.injEq, exists_eq_left', Nat.reduceAdd, Nat.reduceLeDiff, true_and, and_true, true_or, or_true, Int.zero_add, Nat.zero_le, eq_self, ne_eq, not_true_eq_false, not_false_eq_true, false_implies, true_implies, implies_true, b2i_0, b2i_1, b2i_01, up_sc, sc_at, sc_sc, ite_true, ite_false, if_true, if_false, Nat.reduceEqDiff, reduceIte]
    repeat' (first | intro _ | refine And.intro ?_ ?_)
    all_goals first | exact hK _ | omega
  | succ k ih =>
    intro q a u hq q0 hK
    have q1 : q < 40 := by omega
    unfold lfI at hK
    rw [s70_15]
    rcases rL7 hr p h0 h1 with ⟨c1, c2, c3, c4, c5, c6⟩ | ⟨c1, c2⟩
    · rcases rL7 hr q q0 q1 with ⟨d1, d2, d3, d4, d5, d6⟩ | ⟨d1, d2⟩
      · simp only [s70_17, s70_19, s70_22, s70_23, s70_26, s70_29, s70_30, s70_31, s70_32, s70_35, s70_36, s70_39, s70_42, s70_44, s70_45, s70_46, s70_49, s70_50, s70_53, s70_54, s70_56, s70_59, s70_61, s70_62, s70_63, s70_66, s70_68, s70_71, s70_72, s70_74, s70_77, s70_78, s70_81, sx_push, tf, List.length_cons, List.length_nil, Option.some.injEq, exists_eq_left', Nat.reduceAdd, Nat.reduceLeDiff, true_and, and_true, true_or, or_true, Int.zero_add, Nat.zero_le, eq_self, ne_eq, not_true_eq_false, not_false_eq_true, false_implies, true_implies, implies_true, b2i_0, b2i_1, b2i_01, up_sc, sc_at, sc_sc, ite_true, ite_false, if_true, if_false, Nat.reduceEqDiff, reduceIte, c2, d2, x62o isP7 hr hw h0 h1 c1 q0 q1 d1]
        repeat' (first | intro _ | refine And.intro ?_ ?_)
        all_goals first | omega | (split at hK <;> first | omega | exact ih _ _ _ (by omega) (by omega) hK | (rw [Int.min_eq_left (by omega)]; exact ih _ _ _ (by omega) (by omega) hK) | (rw [Int.min_eq_right (by omega)]; exact ih _ _ _ (by omega) (by omega) hK))
      · simp only [s70_17, s70_19, s70_22, s70_23, s70_26, s70_29, s70_30, s70_31, s70_32, s70_35, s70_36, s70_39, s70_42, s70_44, s70_45, s70_46, s70_49, s70_50, s70_53, s70_54, s70_56, s70_59, s70_61, s70_62, s70_63, s70_66, s70_68, s70_71, s70_72, s70_74, s70_77, s70_78, s70_81, sx_push, tf, List.length_cons, List.length_nil, Option.some.injEq, exists_eq_left', Nat.reduceAdd, Nat.reduceLeDiff, true_and, and_true, true_or, or_true, Int.zero_add, Nat.zero_le, eq_self, ne_eq, not_true_eq_false, not_false_eq_true, false_implies, true_implies, implies_true, b2i_0, b2i_1, b2i_01, up_sc, sc_at, sc_sc, ite_true, ite_false, if_true, if_false, Nat.reduceEqDiff, reduceIte, c2]
        rw [if_neg (by omega)] at hK
        repeat' (first | intro _ | refine And.intro ?_ ?_)
        all_goals first | omega | exact ih _ _ _ (by omega) (by omega) hK
    · simp only [s70_17, s70_19, s70_22, s70_23, s70_26, s70_29, s70_30, s70_31, s70_32, s70_35, s70_36, s70_39, s70_42, s70_44, s70_45, s70_46, s70_49, s70_50, s70_53, s70_54, s70_56, s70_59, s70_61, s70_62, s70_63, s70_66, s70_68, s70_71, s70_72, s70_74, s70_77, s70_78, s70_81, sx_push, tf, List.length_cons, List.length_nil, Option.some.injEq, exists_eq_left', Nat.reduceAdd, Nat.reduceLeDiff, true_and, and_true, true_or, or_true, Int.zero_add, Nat.zero_le, eq_self, ne_eq, not_true_eq_false, not_false_eq_true, false_implies, true_implies, implies_true, b2i_0, b2i_1, b2i_01, up_sc, sc_at, sc_sc, ite_true, ite_false, if_true, if_false, Nat.reduceEqDiff, reduceIte]
      rw [if_neg (by omega)] at hK
      repeat' (first | intro _ | refine And.intro ?_ ?_)
      all_goals first | omega | exact ih _ _ _ (by omega) (by omega) hK
theorem x70l (hr : rL σ 7 f) (hw : wfc f) {l : Int} (hl : 0 ≤ l) : ∀ (k : Nat) (p a : Int) (u v : Option sxV), p + k = 40 → 0 ≤ p → K (some (vI (lfO f l k p a))) (T0 n) σ → Rn 70 4 [some (vR 133), some (vI l), some (vI a), some (vI p), u, v] [] (T0 n) σ K := by
  intro k
  induction k with
  | zero =>
    intro p a u v hp h0 hK
    rw [s70_4]
    simp only [s70_0, s70_1, s70_2, s70_3, s70_5, s70_7, s70_10, s70_11, s70_12, s70_13, s70_17, s70_19, s70_22, s70_23, s70_26, s70_29, s70_30, s70_31, s70_32, s70_35, s70_36, s70_39, s70_42, s70_44, s70_45, s70_46, s70_49, s70_50, s70_53, s70_54, s70_56, s70_59, s70_61, s70_62, s70_63, s70_66, s70_68, s70_71, s70_72, s70_74, s70_77, s70_78, s70_81, s70_84, s70_87, s70_90, s70_91, sx_push, tf, List.length_cons, List.length_nil, Option.some.injEq, exists_eq_left', Nat.reduceAdd, Nat.reduceLeDiff, true_and, and_true, true_or, or_true, Int.zero_add, Nat.zero_le, eq_self, ne_eq, not_true_eq_false, not_false_eq_true, false_implies, true_implies, implies_true, b2i_0, b2i_1, b2i_01, up_sc, sc_at, sc_sc, ite_true, ite_false, if_true, if_false, Nat.reduceEqDiff, reduceIte]
    repeat' (first | intro _ | refine And.intro ?_ ?_)
    all_goals first | exact hK | omega
  | succ k ih =>
    intro p a u v hp h0 hK
    have h1 : p < 40 := by omega
    unfold lfO at hK
    rw [s70_4]
    simp only [s70_5, s70_7, s70_10, s70_11, s70_12, s70_13, sx_push, tf, List.length_cons, List.length_nil, Option.some.injEq, exists_eq_left', Nat.reduceAdd, Nat.reduceLeDiff, true_and, and_true, true_or, or_true, Int.zero_add, Nat.zero_le, eq_self, ne_eq, not_true_eq_false, not_false_eq_true, false_implies, true_implies, implies_true, b2i_0, b2i_1, b2i_01, up_sc, sc_at, sc_sc, ite_true, ite_false, if_true, if_false, Nat.reduceEqDiff, reduceIte]
    repeat' (first | intro _ | refine And.intro ?_ ?_)
    all_goals first | omega | skip
    refine x70i hr hw hl h0 h1 k (p + 1) a _ (by omega) (by omega) (fun u => ?_)
    simp only [s70_84, s70_87, sx_push, tf, List.length_cons, List.length_nil, Option.some.injEq, exists_eq_left', Nat.reduceAdd, Nat.reduceLeDiff, true_and, and_true, true_or, or_true, Int.zero_add, Nat.zero_le, eq_self, ne_eq, not_true_eq_false, not_false_eq_true, false_implies, true_implies, implies_true, b2i_0, b2i_1, b2i_01, up_sc, sc_at, sc_sc, ite_true, ite_false, if_true, if_false, Nat.reduceEqDiff, reduceIte]
    repeat' (first | intro _ | refine And.intro ?_ ?_)
    all_goals first | omega | exact ih _ _ _ _ (by omega) (by omega) hK
theorem x70 (hr : rL σ 7 f) (hw : wfc f) {l : Int} (hl : 0 ≤ l) : Rn 70 0 [some (vR 133), some (vI l), none, none, none, none] [] (T0 n) σ K ↔ K (some (vI (lfO f l 40 0 (-1)))) (T0 n) σ := by
  refine Rn_iff fun K hK => ?_
  simp only [s70_0, s70_1, s70_2, s70_3, s70_5, s70_7, s70_10, s70_11, s70_12, s70_13, s70_17, s70_19, s70_22, s70_23, s70_26, s70_29, s70_30, s70_31, s70_32, s70_35, s70_36, s70_39, s70_42, s70_44, s70_45, s70_46, s70_49, s70_50, s70_53, s70_54, s70_56, s70_59, s70_61, s70_62, s70_63, s70_66, s70_68, s70_71, s70_72, s70_74, s70_77, s70_78, s70_81, s70_84, s70_87, s70_90, s70_91, sx_push, tf, List.length_cons, List.length_nil, Option.some.injEq, exists_eq_left', Nat.reduceAdd, Nat.reduceLeDiff, true_and, and_true, true_or, or_true, Int.zero_add, Nat.zero_le, eq_self, ne_eq, not_true_eq_false, not_false_eq_true, false_implies, true_implies, implies_true, b2i_0, b2i_1, b2i_01, up_sc, sc_at, sc_sc, ite_true, ite_false, if_true, if_false, Nat.reduceEqDiff, reduceIte]
  exact x70l hr hw hl 40 0 (-1) _ _ (by omega) (by omega) hK
theorem x71l (hr : rL σ 7 f) (hp : rP σ 7 f) (hw : wfc f) (ht : tree f) {l : Int} (hl : l ≤ 10) : ∀ (k : Nat) (p a : Int) (u : Option sxV), p + k = 40 → 0 ≤ p → K (some (vI (mfF f l k p a))) (T0 n) σ → Rn 71 4 [some (vR 133), some (vI l), some (vI a), some (vI p), u] [] (T0 n) σ K := by
  intro k
  induction k with
  | zero =>
    intro p a u hp h0 hK
    rw [s71_4]
    simp only [s71_0, s71_1, s71_2, s71_3, s71_5, s71_7, s71_10, s71_11, s71_14, s71_15, s71_18, s71_21, s71_22, s71_25, s71_26, s71_27, s71_30, s71_32, s71_33, s71_36, s71_38, s71_41, s71_44, s71_45, s71_46, s71_49, s71_50, s71_52, s71_55, s71_58, s71_59, s71_62, s71_65, s71_66, sx_push, tf, List.length_cons, List.length_nil, Option.some.injEq, exists_eq_left', Nat.reduceAdd, Nat.reduceLeDiff, true_and, and_true, true_or, or_true, Int.zero_add, Nat.zero_le, eq_self, ne_eq, not_true_eq_false, not_false_eq_true, false_implies, true_implies, implies_true, b2i_0, b2i_1, b2i_01, up_sc, sc_at, sc_sc, ite_true, ite_false, if_true, if_false, Nat.reduceEqDiff, reduceIte]
    repeat' (first | intro _ | refine And.intro ?_ ?_)
    all_goals first | exact hK | omega
  | succ k ih =>
    intro p a u hp' h0 hK
    have h1 : p < 40 := by omega
    unfold mfF at hK
    rw [s71_4]
    by_cases c : f p = 1
    · rw [if_pos c] at hK
      have t1 := ht p h0 h1 c
      have up := upF_in ht hl 10 p h0 h1 c (by omega)
      simp only [s71_0, s71_1, s71_2, s71_3, s71_5, s71_7, s71_10, s71_11, s71_14, s71_15, s71_18, s71_21, s71_22, s71_25, s71_26, s71_27, s71_30, s71_32, s71_33, s71_36, s71_38, s71_41, s71_44, s71_45, s71_46, s71_49, s71_50, s71_52, s71_55, s71_58, s71_59, s71_62, s71_65, s71_66, sx_push, tf, List.length_cons, List.length_nil, Option.some.injEq, exists_eq_left', Nat.reduceAdd, Nat.reduceLeDiff, true_and, and_true, true_or, or_true, Int.zero_add, Nat.zero_le, eq_self, ne_eq, not_true_eq_false, not_false_eq_true, false_implies, true_implies, implies_true, b2i_0, b2i_1, b2i_01, up_sc, sc_at, sc_sc, ite_true, ite_false, if_true, if_false, Nat.reduceEqDiff, reduceIte, x49 isP7 hr, x68 isP7 hr hp ht hl h0 h1 c, x62o isP7 hr hw h0 h1 c up.1.1 up.1.2 up.2]
      repeat' (first | intro _ | refine And.intro ?_ ?_)
      all_goals first | omega | exact ih _ _ _ (by omega) (by omega) hK
    · rw [if_neg c] at hK
      simp only [s71_0, s71_1, s71_2, s71_3, s71_5, s71_7, s71_10, s71_11, s71_14, s71_15, s71_18, s71_21, s71_22, s71_25, s71_26, s71_27, s71_30, s71_32, s71_33, s71_36, s71_38, s71_41, s71_44, s71_45, s71_46, s71_49, s71_50, s71_52, s71_55, s71_58, s71_59, s71_62, s71_65, s71_66, sx_push, tf, List.length_cons, List.length_nil, Option.some.injEq, exists_eq_left', Nat.reduceAdd, Nat.reduceLeDiff, true_and, and_true, true_or, or_true, Int.zero_add, Nat.zero_le, eq_self, ne_eq, not_true_eq_false, not_false_eq_true, false_implies, true_implies, implies_true, b2i_0, b2i_1, b2i_01, up_sc, sc_at, sc_sc, ite_true, ite_false, if_true, if_false, Nat.reduceEqDiff, reduceIte, x49 isP7 hr]
      repeat' (first | intro _ | refine And.intro ?_ ?_)
      all_goals first | omega | exact ih _ _ _ (by omega) (by omega) hK
theorem x71 (hr : rL σ 7 f) (hp : rP σ 7 f) (hw : wfc f) (ht : tree f) {l : Int} (hl : l ≤ 10) : Rn 71 0 [some (vR 133), some (vI l), none, none, none] [] (T0 n) σ K ↔ K (some (vI (mfF f l 40 0 (-1)))) (T0 n) σ := by
  refine Rn_iff fun K hK => ?_
  simp only [s71_0, s71_1, s71_2, s71_3, s71_5, s71_7, s71_10, s71_11, s71_14, s71_15, s71_18, s71_21, s71_22, s71_25, s71_26, s71_27, s71_30, s71_32, s71_33, s71_36, s71_38, s71_41, s71_44, s71_45, s71_46, s71_49, s71_50, s71_52, s71_55, s71_58, s71_59, s71_62, s71_65, s71_66, sx_push, tf, List.length_cons, List.length_nil, Option.some.injEq, exists_eq_left', Nat.reduceAdd, Nat.reduceLeDiff, true_and, and_true, true_or, or_true, Int.zero_add, Nat.zero_le, eq_self, ne_eq, not_true_eq_false, not_false_eq_true, false_implies, true_implies, implies_true, b2i_0, b2i_1, b2i_01, up_sc, sc_at, sc_sc, ite_true, ite_false, if_true, if_false, Nat.reduceEqDiff, reduceIte]
  exact x71l hr hp hw ht hl 40 0 (-1) _ (by omega) (by omega) hK
theorem x73l (hr : rL σ 7 f) (hw : wfc f) {l p r : Int} (hl : 0 ≤ l) (h0 : 0 ≤ p) (h1 : p < 40) (hp : f p = 1) : ∀ (k : Nat) (q a : Int), q + k = 40 → 0 ≤ q → 0 ≤ a → a ≤ q → K (some (vI (cnt (fun q => decide ((f q = 1 ∧ l ≤ f (160 + q)) ∧ farO f p q < r)) k q a))) (T0 n) σ → Rn 73 6 [some (vR 133), some (vI p), some (vI l), some (vI r), some (vI a), some (vI q)] [] (T0 n) σ K := by
  intro k
  induction k with
  | zero =>
    intro q a hq q0 ha ha' hK
    rw [s73_6]
    simp only [s73_0, s73_1, s73_3, s73_4, s73_8, s73_10, s73_13, s73_14, s73_17, s73_20, s73_22, s73_23, s73_24, s73_27, s73_28, s73_31, s73_32, s73_34, s73_37, s73_38, s73_41, s73_44, s73_47, s73_50, s73_52, sx_push, tf, List.length_cons, List.length_nil, Option.some.injEq, exists_eq_left', Nat.reduceAdd, Nat.reduceLeDiff, true_and, and_true, true_or, or_true, Int.zero_add, Nat.zero_le, eq_self, ne_eq, not_true_eq_false, not_false_eq_true, false_implies, true_implies, implies_true, b2i_0, b2i_1, b2i_01, up_sc, sc_at, sc_sc, ite_true, ite_false, if_true, if_false, Nat.reduceEqDiff, reduceIte]
    repeat' (first | intro _ | refine And.intro ?_ ?_)
    all_goals first | exact hK | omega
  | succ k ih =>
    intro q a hq q0 ha ha' hK
    have q1 : q < 40 := by omega
    unfold cnt at hK
    simp only [decide_eq_true_eq] at hK
    rw [s73_6]
    rcases rL7 hr q q0 q1 with ⟨d1, d2, d3, d4, d5, d6⟩ | ⟨d1, d2⟩
    · simp only [s73_0, s73_1, s73_3, s73_4, s73_8, s73_10, s73_13, s73_14, s73_17, s73_20, s73_22, s73_23, s73_24, s73_27, s73_28, s73_31, s73_32, s73_34, s73_37, s73_38, s73_41, s73_44, s73_47, s73_50, s73_52, sx_push, tf, List.length_cons, List.length_nil, Option.some.injEq, exists_eq_left', Nat.reduceAdd, Nat.reduceLeDiff, true_and, and_true, true_or, or_true, Int.zero_add, Nat.zero_le, eq_self, ne_eq, not_true_eq_false, not_false_eq_true, false_implies, true_implies, implies_true, b2i_0, b2i_1, b2i_01, up_sc, sc_at, sc_sc, ite_true, ite_false, if_true, if_false, Nat.reduceEqDiff, reduceIte, d2, x62o isP7 hr hw h0 h1 hp q0 q1 d1]
      repeat' (first | intro _ | refine And.intro ?_ ?_)
      all_goals first | omega | (split at hK <;> first | omega | exact ih _ _ (by omega) (by omega) (by omega) (by omega) hK)
    · simp only [s73_0, s73_1, s73_3, s73_4, s73_8, s73_10, s73_13, s73_14, s73_17, s73_20, s73_22, s73_23, s73_24, s73_27, s73_28, s73_31, s73_32, s73_34, s73_37, s73_38, s73_41, s73_44, s73_47, s73_50, s73_52, sx_push, tf, List.length_cons, List.length_nil, Option.some.injEq, exists_eq_left', Nat.reduceAdd, Nat.reduceLeDiff, true_and, and_true, true_or, or_true, Int.zero_add, Nat.zero_le, eq_self, ne_eq, not_true_eq_false, not_false_eq_true, false_implies, true_implies, implies_true, b2i_0, b2i_1, b2i_01, up_sc, sc_at, sc_sc, ite_true, ite_false, if_true, if_false, Nat.reduceEqDiff, reduceIte]
      rw [if_neg (by omega)] at hK
      repeat' (first | intro _ | refine And.intro ?_ ?_)
      all_goals first | omega | exact ih _ _ (by omega) (by omega) (by omega) (by omega) hK
theorem x73 (hr : rL σ 7 f) (hw : wfc f) {l p r : Int} (hl : 0 ≤ l) (h0 : 0 ≤ p) (h1 : p < 40) (hp : f p = 1) : Rn 73 0 [some (vR 133), some (vI p), some (vI l), some (vI r), none, none] [] (T0 n) σ K ↔ K (some (vI (cnt (fun q => decide ((f q = 1 ∧ l ≤ f (160 + q)) ∧ farO f p q < r)) 40 0 0))) (T0 n) σ := by
  refine Rn_iff fun K hK => ?_
  simp only [s73_0, s73_1, s73_3, s73_4, s73_8, s73_10, s73_13, s73_14, s73_17, s73_20, s73_22, s73_23, s73_24, s73_27, s73_28, s73_31, s73_32, s73_34, s73_37, s73_38, s73_41, s73_44, s73_47, s73_50, s73_52, sx_push, tf, List.length_cons, List.length_nil, Option.some.injEq, exists_eq_left', Nat.reduceAdd, Nat.reduceLeDiff, true_and, and_true, true_or, or_true, Int.zero_add, Nat.zero_le, eq_self, ne_eq, not_true_eq_false, not_false_eq_true, false_implies, true_implies, implies_true, b2i_0, b2i_1, b2i_01, up_sc, sc_at, sc_sc, ite_true, ite_false, if_true, if_false, Nat.reduceEqDiff, reduceIte]
  exact x73l hr hw hl h0 h1 hp 40 0 0 (by omega) (by omega) (by omega) (by omega) hK
theorem pw_s {l : Int} (h0 : 0 ≤ l) : (2 : Int) ^ (l + 1).toNat = 2 * 2 ^ l.toNat := by
  rw [show (l + 1).toNat = l.toNat + 1 by omega, Int.pow_succ, Int.mul_comm]
theorem x72l (hr : rL σ 7 f) (hw : wfc f) {l : Int} (hl0 : 0 ≤ l) (hl : l ≤ 10) : ∀ (k : Nat) (p a : Int), p + k = 40 → 0 ≤ p → K (some (vI (croF f l k p a))) (T0 n) σ → Rn 72 4 [some (vR 133), some (vI l), some (vI a), some (vI p)] [] (T0 n) σ K := by
  intro k
  induction k with
  | zero =>
    intro p a hp h0 hK
    rw [s72_4]
    simp only [s72_0, s72_1, s72_2, s72_3, s72_5, s72_7, s72_10, s72_11, s72_14, s72_17, s72_18, s72_19, s72_20, s72_23, s72_24, s72_25, s72_26, s72_27, s72_28, s72_29, s72_30, s72_33, s72_34, s72_35, s72_36, s72_37, s72_38, s72_41, s72_44, s72_45, s72_48, s72_51, s72_52, sx_push, tf, List.length_cons, List.length_nil, Option.some.injEq, exists_eq_left', Nat.reduceAdd, Nat.reduceLeDiff, true_and, and_true, true_or, or_true, Int.zero_add, Nat.zero_le, eq_self, ne_eq, not_true_eq_false, not_false_eq_true, false_implies, true_implies, implies_true, b2i_0, b2i_1, b2i_01, up_sc, sc_at, sc_sc, ite_true, ite_false, if_true, if_false, Nat.reduceEqDiff, reduceIte]
    repeat' (first | intro _ | refine And.intro ?_ ?_)
    all_goals first | exact hK | omega
  | succ k ih =>
    intro p a hp h0 hK
    have h1 : p < 40 := by omega
    have pw := pw_in hl0 hl
    unfold croF at hK
    rw [s72_4]
    rcases rL7 hr p h0 h1 with ⟨c1, c2, c3, c4, c5, c6⟩ | ⟨c1, c2⟩
    · simp only [s72_0, s72_1, s72_2, s72_3, s72_5, s72_7, s72_10, s72_11, s72_14, s72_17, s72_18, s72_19, s72_20, s72_23, s72_24, s72_25, s72_26, s72_27, s72_28, s72_29, s72_30, s72_33, s72_34, s72_35, s72_36, s72_37, s72_38, s72_41, s72_44, s72_45, s72_48, s72_51, s72_52, sx_push, tf, List.length_cons, List.length_nil, Option.some.injEq, exists_eq_left', Nat.reduceAdd, Nat.reduceLeDiff, true_and, and_true, true_or, or_true, Int.zero_add, Nat.zero_le, eq_self, ne_eq, not_true_eq_false, not_false_eq_true, false_implies, true_implies, implies_true, b2i_0, b2i_1, b2i_01, up_sc, sc_at, sc_sc, ite_true, ite_false, if_true, if_false, Nat.reduceEqDiff, reduceIte, c2, x73 hr hw (show 0 ≤ max 0 (l - 1) by omega) h0 h1 c1, pw_s hl0, Int.one_mul]
      repeat' (first | intro _ | refine And.intro ?_ ?_)
      all_goals first | omega | (split at hK <;> first | omega | exact ih _ _ (by omega) (by omega) hK)
    · simp only [s72_0, s72_1, s72_2, s72_3, s72_5, s72_7, s72_10, s72_11, s72_14, s72_17, s72_18, s72_19, s72_20, s72_23, s72_24, s72_25, s72_26, s72_27, s72_28, s72_29, s72_30, s72_33, s72_34, s72_35, s72_36, s72_37, s72_38, s72_41, s72_44, s72_45, s72_48, s72_51, s72_52, sx_push, tf, List.length_cons, List.length_nil, Option.some.injEq, exists_eq_left', Nat.reduceAdd, Nat.reduceLeDiff, true_and, and_true, true_or, or_true, Int.zero_add, Nat.zero_le, eq_self, ne_eq, not_true_eq_false, not_false_eq_true, false_implies, true_implies, implies_true, b2i_0, b2i_1, b2i_01, up_sc, sc_at, sc_sc, ite_true, ite_false, if_true, if_false, Nat.reduceEqDiff, reduceIte]
      rw [if_neg (by omega)] at hK
      repeat' (first | intro _ | refine And.intro ?_ ?_)
      all_goals first | omega | exact ih _ _ (by omega) (by omega) hK
theorem x72 (hr : rL σ 7 f) (hw : wfc f) {l : Int} (hl0 : 0 ≤ l) (hl : l ≤ 10) : Rn 72 0 [some (vR 133), some (vI l), none, none] [] (T0 n) σ K ↔ K (some (vI (croF f l 40 0 (-1)))) (T0 n) σ := by
  refine Rn_iff fun K hK => ?_
  simp only [s72_0, s72_1, s72_2, s72_3, s72_5, s72_7, s72_10, s72_11, s72_14, s72_17, s72_18, s72_19, s72_20, s72_23, s72_24, s72_25, s72_26, s72_27, s72_28, s72_29, s72_30, s72_33, s72_34, s72_35, s72_36, s72_37, s72_38, s72_41, s72_44, s72_45, s72_48, s72_51, s72_52, sx_push, tf, List.length_cons, List.length_nil, Option.some.injEq, exists_eq_left', Nat.reduceAdd, Nat.reduceLeDiff, true_and, and_true, true_or, or_true, Int.zero_add, Nat.zero_le, eq_self, ne_eq, not_true_eq_false, not_false_eq_true, false_implies, true_implies, implies_true, b2i_0, b2i_1, b2i_01, up_sc, sc_at, sc_sc, ite_true, ite_false, if_true, if_false, Nat.reduceEqDiff, reduceIte]
  exact x72l hr hw hl0 hl 40 0 (-1) (by omega) (by omega) hK
theorem x69 (hr : rL σ 7 f) (hp : rP σ 7 f) (hw : wfc f) (ht : tree f) {l w : Int} : Rn 69 0 [some (vR 1), some (vI l), some (vI w)] [] (T0 n) σ K ↔ K (some (vI (looseS f l w))) (T0 n) σ := by
  refine Rn_iff fun K hK => ?_
  unfold looseS at hK
  by_cases h : 0 ≤ l ∧ l ≤ 10
  · rw [if_pos h] at hK
    simp only [s69_0, s69_1, s69_4, s69_7, s69_8, s69_9, s69_10, s69_36, s69_37, s69_40, s69_41, s69_44, s69_45, s69_46, s69_49, s69_50, s69_53, s69_54, s69_55, s69_58, s69_59, s69_62, s69_63, s69_64, sx_push, tf, List.length_cons, List.length_nil, Option.some.injEq, exists_eq_left', Nat.reduceAdd, Nat.reduceLeDiff, true_and, and_true, true_or, or_true, Int.zero_add, Nat.zero_le, eq_self, ne_eq, not_true_eq_false, not_false_eq_true, false_implies, true_implies, implies_true, b2i_0, b2i_1, b2i_01, up_sc, sc_at, sc_sc, ite_true, ite_false, if_true, if_false, Nat.reduceEqDiff, reduceIte, sx_sw, x64, x70 hr hw h.1, x71 hr hp hw ht h.2, x72 hr hw h.1 h.2]
    generalize lfO f l 40 0 (-1) = r0 at *
    generalize mfF f l 40 0 (-1) = r1 at *
    generalize croF f l 40 0 (-1) = r2 at *
    repeat' (first | intro _ | refine And.intro ?_ ?_)
    all_goals (first | omega | (exfalso; contradiction) | (subst_vars; exact hK) | (simp_all; done))
  · rw [if_neg h] at hK
    simp only [s69_0, s69_1, s69_4, s69_7, s69_8, s69_9, s69_10, s69_36, s69_37, s69_40, s69_41, s69_44, s69_45, s69_46, s69_49, s69_50, s69_53, s69_54, s69_55, s69_58, s69_59, s69_62, s69_63, s69_64, sx_push, tf, List.length_cons, List.length_nil, Option.some.injEq, exists_eq_left', Nat.reduceAdd, Nat.reduceLeDiff, true_and, and_true, true_or, or_true, Int.zero_add, Nat.zero_le, eq_self, ne_eq, not_true_eq_false, not_false_eq_true, false_implies, true_implies, implies_true, b2i_0, b2i_1, b2i_01, up_sc, sc_at, sc_sc, ite_true, ite_false, if_true, if_false, Nat.reduceEqDiff, reduceIte, x64]
    repeat' (first | intro _ | refine And.intro ?_ ?_)
    all_goals first | exact hK | omega
theorem x74 (hr : rL σ 7 f) (hp : rP σ 7 f) (hz : rtP f) {w : Int} : Rn 74 0 [some (vR 1), some (vI w), none] [] (T0 n) σ K ↔ K (some (vI (mostS f w))) (T0 n) σ := by
  refine Rn_iff fun K hK => ?_
  unfold mostS at hK
  have hb := bizF_in f 40 0 (-1) (by omega) (by omega) (Or.inl rfl)
  rcases hb with hb | ⟨b0, b1, b2⟩
  · rw [if_neg (by omega)] at hK
    simp only [s74_0, s74_1, s74_4, s74_7, s74_8, s74_9, s74_10, s74_13, s74_14, s74_15, s74_16, s74_44, s74_45, s74_48, s74_49, s74_52, s74_53, s74_54, s74_55, s74_56, sx_push, tf, List.length_cons, List.length_nil, Option.some.injEq, exists_eq_left', Nat.reduceAdd, Nat.reduceLeDiff, true_and, and_true, true_or, or_true, Int.zero_add, Nat.zero_le, eq_self, ne_eq, not_true_eq_false, not_false_eq_true, false_implies, true_implies, implies_true, b2i_0, b2i_1, b2i_01, up_sc, sc_at, sc_sc, ite_true, ite_false, if_true, if_false, Nat.reduceEqDiff, reduceIte, x75 isP7 hr hp hz, hb]
    repeat' (first | intro _ | refine And.intro ?_ ?_)
    all_goals first | exact hK | omega
  · have hn : bizF f 40 0 (-1) ≠ -1 := by omega
    simp only [s74_0, s74_1, s74_4, s74_7, s74_8, s74_9, s74_10, s74_13, s74_14, s74_15, s74_16, s74_44, s74_45, s74_48, s74_49, s74_52, s74_53, s74_54, s74_55, s74_56, sx_push, tf, List.length_cons, List.length_nil, Option.some.injEq, exists_eq_left', Nat.reduceAdd, Nat.reduceLeDiff, true_and, and_true, true_or, or_true, Int.zero_add, Nat.zero_le, eq_self, ne_eq, not_true_eq_false, not_false_eq_true, false_implies, true_implies, implies_true, b2i_0, b2i_1, b2i_01, up_sc, sc_at, sc_sc, ite_true, ite_false, if_true, if_false, Nat.reduceEqDiff, reduceIte, sx_sw, x75 isP7 hr hp hz, x54c isP7 hr hp hz b0]
    generalize bizF f 40 0 (-1) = b at *
    by_cases h : b ≠ -1 ∧ (0 ≤ w ∧ w ≤ 1)
    · rw [if_pos h] at hK
      repeat' (first | intro _ | refine And.intro ?_ ?_)
      all_goals first | omega | (rw [if_pos (by omega)] at hK; exact hK) | (rw [if_neg (by omega)] at hK; exact hK)
    · rw [if_neg h] at hK
      repeat' (first | intro _ | refine And.intro ?_ ?_)
      all_goals first | exact hK | omega
theorem x53 (hr : rL σ 7 f) (hp : rP σ 7 f) (hw : wfc f) (ht : tree f) (hz : rtP f) {p w : Int} : Rn 53 0 [some (vR 1), some (vI p), some (vI w)] [] (T0 n) σ K ↔ K (some (vI (pointS f p w))) (T0 n) σ := by
  refine Rn_iff fun K hK => ?_
  unfold pointS at hK
  by_cases h : (0 ≤ p ∧ p < 40) ∧ f p = 1
  · rw [if_pos h] at hK
    obtain ⟨w1, w2, w3⟩ := hw p h.1.1 h.1.2
    have pr := pk_rng w1 w2 w3
    rcases rL7 hr p h.1.1 h.1.2 with ⟨c1, c2, c3, c4, c5, c6⟩ | ⟨c1, c2⟩
    · simp only [s53_0, s53_1, s53_4, s53_5, s53_8, s53_11, s53_12, s53_13, s53_14, s53_56, s53_57, s53_60, s53_63, s53_64, s53_65, s53_67, s53_68, s53_71, s53_72, s53_73, s53_74, s53_77, s53_80, s53_81, s53_82, s53_84, s53_85, s53_88, s53_89, s53_90, s53_91, s53_94, s53_97, s53_98, s53_99, s53_102, s53_103, s53_104, s53_105, s53_108, s53_111, s53_112, s53_113, s53_114, s53_115, s53_118, s53_121, s53_122, s53_123, s53_124, s53_125, s53_128, s53_129, s53_132, s53_133, s53_134, s53_137, s53_138, s53_141, s53_142, s53_143, Int.reduceToNat, Int.reducePow, Nat.reducePow, Int.reduceLE, Int.reduceLT, Int.reduceNeg, Int.reduceEq, Int.reduceNe, Int.reduceAdd, Int.reduceSub, Int.reduceMul, and_self, sx_push, tf, List.length_cons, List.length_nil, Option.some.injEq, exists_eq_left', Nat.reduceAdd, Nat.reduceLeDiff, true_and, and_true, true_or, or_true, Int.zero_add, Nat.zero_le, eq_self, ne_eq, not_true_eq_false, not_false_eq_true, false_implies, true_implies, implies_true, b2i_0, b2i_1, b2i_01, up_sc, sc_at, sc_sc, ite_true, ite_false, if_true, if_false, Nat.reduceEqDiff, reduceIte, sx_sw, x49 isP7 hr, c2, c5, rP7 hp p h.1.1 h.1.2 h.2, pk_x w1 w2 w3, pk_y w1 w2 w3, pk_z w1 w2 w3, x54 isP7 hr hp hz h.1.1, x55 isP7 hr hp ht hz h.1.1]
      generalize cnt (fun q => decide (f q = 1 ∧ f (160 + q) < 10 ∧ f (200 + q) = p)) 40 0 0 = r5 at *
      generalize cnt (fun q => decide (f q = 1 ∧ belF f p 10 q = true)) 40 0 0 = r6 at *
      repeat' (first | intro _ | refine And.intro ?_ ?_)
      all_goals (first | omega | (exfalso; contradiction) | (subst_vars; exact hK) | (simp_all; done))
    · omega
  · rw [if_neg h] at hK
    simp only [s53_0, s53_1, s53_4, s53_5, s53_8, s53_11, s53_12, s53_13, s53_14, s53_56, s53_57, s53_60, s53_63, s53_64, s53_65, s53_67, s53_68, s53_71, s53_72, s53_73, s53_74, s53_77, s53_80, s53_81, s53_82, s53_84, s53_85, s53_88, s53_89, s53_90, s53_91, s53_94, s53_97, s53_98, s53_99, s53_102, s53_103, s53_104, s53_105, s53_108, s53_111, s53_112, s53_113, s53_114, s53_115, s53_118, s53_121, s53_122, s53_123, s53_124, s53_125, s53_128, s53_129, s53_132, s53_133, s53_134, s53_137, s53_138, s53_141, s53_142, s53_143, sx_push, tf, List.length_cons, List.length_nil, Option.some.injEq, exists_eq_left', Nat.reduceAdd, Nat.reduceLeDiff, true_and, and_true, true_or, or_true, Int.zero_add, Nat.zero_le, eq_self, ne_eq, not_true_eq_false, not_false_eq_true, false_implies, true_implies, implies_true, b2i_0, b2i_1, b2i_01, up_sc, sc_at, sc_sc, ite_true, ite_false, if_true, if_false, Nat.reduceEqDiff, reduceIte, x49 isP7 hr]
    repeat' (first | intro _ | refine And.intro ?_ ?_)
    all_goals first | exact hK | omega
theorem x57 (hr : rL σ 7 f) (hw : wfc f) {x y z : Int} : Rn 57 0 [some (vR 1), some (vI x), some (vI y), some (vI z), none] [] (T0 n) σ K ↔ K (some (vI (fnd (fun p => decide (f p = 1 ∧ f (40 + p) = x ∧ f (80 + p) = y ∧ f (120 + p) = z)) 40 0))) (T0 n) σ := by
  refine Rn_iff fun K hK => ?_
  by_cases h : (0 ≤ x ∧ x ≤ 255) ∧ (0 ≤ y ∧ y ≤ 255) ∧ 0 ≤ z ∧ z ≤ 255
  · have pr := pk_rng h.1 h.2.1 h.2.2
    have e : plc x y z = pk x y z := if_pos h
    simp only [s57_0, s57_1, s57_2, s57_3, s57_6, s57_8, s57_10, s57_11, s57_14, s57_15, s57_18, s57_19, s57_22, s57_24, s57_27, sx_push, tf, List.length_cons, List.length_nil, Option.some.injEq, exists_eq_left', Nat.reduceAdd, Nat.reduceLeDiff, true_and, and_true, true_or, or_true, Int.zero_add, Nat.zero_le, eq_self, ne_eq, not_true_eq_false, not_false_eq_true, false_implies, true_implies, implies_true, b2i_0, b2i_1, b2i_01, up_sc, sc_at, sc_sc, ite_true, ite_false, if_true, if_false, Nat.reduceEqDiff, reduceIte, x33, e, x58 isP7 hr hw h.1 h.2.1 h.2.2]
    repeat' (first | intro _ | refine And.intro ?_ ?_)
    all_goals first | exact hK | omega
  · have e : plc x y z = -1 := if_neg h
    rcases fnd_in (fun p => decide (f p = 1 ∧ f (40 + p) = x ∧ f (80 + p) = y ∧ f (120 + p) = z)) 40 0 with e2 | ⟨a1, a2, a3⟩
    · rw [e2] at hK
      simp only [s57_0, s57_1, s57_2, s57_3, s57_6, s57_8, s57_10, s57_11, s57_14, s57_15, s57_18, s57_19, s57_22, s57_24, s57_27, sx_push, tf, List.length_cons, List.length_nil, Option.some.injEq, exists_eq_left', Nat.reduceAdd, Nat.reduceLeDiff, true_and, and_true, true_or, or_true, Int.zero_add, Nat.zero_le, eq_self, ne_eq, not_true_eq_false, not_false_eq_true, false_implies, true_implies, implies_true, b2i_0, b2i_1, b2i_01, up_sc, sc_at, sc_sc, ite_true, ite_false, if_true, if_false, Nat.reduceEqDiff, reduceIte, x33, e]
      repeat' (first | intro _ | refine And.intro ?_ ?_)
      all_goals first | exact hK | omega
    · exfalso
      simp only [decide_eq_true_eq] at a3
      have := hw _ a1 (by omega)
      unfold in8 at this
      rw [a3.2.1, a3.2.2.1, a3.2.2.2] at this
      omega
theorem x61 (hr : rL σ 7 f) (hw : wfc f) {p q : Int} : Rn 61 0 [some (vR 1), some (vI p), some (vI q)] [] (T0 n) σ K ↔ K (some (vI (if ((0 ≤ p ∧ p < 40) ∧ f p = 1) ∧ ((0 ≤ q ∧ q < 40) ∧ f q = 1) then farT f p (f (40 + q)) (f (80 + q)) (f (120 + q)) else -1))) (T0 n) σ := by
  refine Rn_iff fun K hK => ?_
  by_cases h : ((0 ≤ p ∧ p < 40) ∧ f p = 1) ∧ ((0 ≤ q ∧ q < 40) ∧ f q = 1)
  · rw [if_pos h] at hK
    simp only [s61_0, s61_1, s61_4, s61_5, s61_8, s61_11, s61_12, s61_15, s61_16, s61_19, s61_22, s61_23, s61_26, s61_27, s61_28, s61_31, s61_34, s61_35, sx_push, tf, List.length_cons, List.length_nil, Option.some.injEq, exists_eq_left', Nat.reduceAdd, Nat.reduceLeDiff, true_and, and_true, true_or, or_true, Int.zero_add, Nat.zero_le, eq_self, ne_eq, not_true_eq_false, not_false_eq_true, false_implies, true_implies, implies_true, b2i_0, b2i_1, b2i_01, up_sc, sc_at, sc_sc, ite_true, ite_false, if_true, if_false, Nat.reduceEqDiff, reduceIte, x49 isP7 hr, x62 isP7 hr hw h.1.1.1 h.1.1.2 h.1.2 h.2.1.1 h.2.1.2 h.2.2]
    repeat' (first | intro _ | refine And.intro ?_ ?_)
    all_goals first | exact hK | omega
  · rw [if_neg h] at hK
    simp only [s61_0, s61_1, s61_4, s61_5, s61_8, s61_11, s61_12, s61_15, s61_16, s61_19, s61_22, s61_23, s61_26, s61_27, s61_28, s61_31, s61_34, s61_35, sx_push, tf, List.length_cons, List.length_nil, Option.some.injEq, exists_eq_left', Nat.reduceAdd, Nat.reduceLeDiff, true_and, and_true, true_or, or_true, Int.zero_add, Nat.zero_le, eq_self, ne_eq, not_true_eq_false, not_false_eq_true, false_implies, true_implies, implies_true, b2i_0, b2i_1, b2i_01, up_sc, sc_at, sc_sc, ite_true, ite_false, if_true, if_false, Nat.reduceEqDiff, reduceIte, x49 isP7 hr]
    repeat' (first | intro _ | refine And.intro ?_ ?_)
    all_goals first | exact hK | omega | (exfalso; exact h ⟨by omega, by omega⟩)
theorem kth_n {c : Int → Bool} : ∀ (k : Nat) (p a : Int), 0 ≤ a → kth c (-1) k p a = cnt c k p a := by
  intro k
  induction k with
  | zero => intro p a _; rfl
  | succ k ih =>
    intro p a ha
    unfold kth cnt
    by_cases h : c p = true
    · rw [if_pos h, if_pos h, if_neg (by omega)]; exact ih _ _ (by omega)
    · rw [if_neg h, if_neg h]; exact ih _ _ ha
theorem x63 (hr : rL σ 7 f) {l kk : Int} (hi : inI kk) : Rn 63 0 [some (vR 1), some (vI l), some (vI kk)] [] (T0 n) σ K ↔ K (some (vI (if (0 ≤ l ∧ l ≤ 10) ∧ -1 ≤ kk then kth (fun p => decide (f p = 1 ∧ l ≤ f (160 + p))) kk 40 0 0 else -1))) (T0 n) σ := by
  refine Rn_iff fun K hK => ?_
  by_cases h : (0 ≤ l ∧ l ≤ 10) ∧ -1 ≤ kk
  · rw [if_pos h] at hK
    by_cases h2 : kk = -1
    · subst h2
      rw [kth_n _ _ _ (by omega)] at hK
      simp only [s63_0, s63_1, s63_4, s63_7, s63_8, s63_9, s63_12, s63_13, s63_14, s63_15, s63_16, s63_19, s63_20, s63_23, s63_24, s63_27, s63_30, s63_31, s63_34, s63_35, s63_36, s63_39, sx_push, tf, List.length_cons, List.length_nil, Option.some.injEq, exists_eq_left', Nat.reduceAdd, Nat.reduceLeDiff, true_and, and_true, true_or, or_true, Int.zero_add, Nat.zero_le, eq_self, ne_eq, not_true_eq_false, not_false_eq_true, false_implies, true_implies, implies_true, b2i_0, b2i_1, b2i_01, up_sc, sc_at, sc_sc, ite_true, ite_false, if_true, if_false, Nat.reduceEqDiff, reduceIte, x64, x65 isP7 hr h.1.1]
      repeat' (first | intro _ | refine And.intro ?_ ?_)
      all_goals first | exact hK | omega
    · simp only [s63_0, s63_1, s63_4, s63_7, s63_8, s63_9, s63_12, s63_13, s63_14, s63_15, s63_16, s63_19, s63_20, s63_23, s63_24, s63_27, s63_30, s63_31, s63_34, s63_35, s63_36, s63_39, sx_push, tf, List.length_cons, List.length_nil, Option.some.injEq, exists_eq_left', Nat.reduceAdd, Nat.reduceLeDiff, true_and, and_true, true_or, or_true, Int.zero_add, Nat.zero_le, eq_self, ne_eq, not_true_eq_false, not_false_eq_true, false_implies, true_implies, implies_true, b2i_0, b2i_1, b2i_01, up_sc, sc_at, sc_sc, ite_true, ite_false, if_true, if_false, Nat.reduceEqDiff, reduceIte, x64, x66 isP7 hr h.1.1 (show 0 ≤ kk by omega) hi]
      repeat' (first | intro _ | refine And.intro ?_ ?_)
      all_goals first | exact hK | omega
  · rw [if_neg h] at hK
    simp only [s63_0, s63_1, s63_4, s63_7, s63_8, s63_9, s63_12, s63_13, s63_14, s63_15, s63_16, s63_19, s63_20, s63_23, s63_24, s63_27, s63_30, s63_31, s63_34, s63_35, s63_36, s63_39, sx_push, tf, List.length_cons, List.length_nil, Option.some.injEq, exists_eq_left', Nat.reduceAdd, Nat.reduceLeDiff, true_and, and_true, true_or, or_true, Int.zero_add, Nat.zero_le, eq_self, ne_eq, not_true_eq_false, not_false_eq_true, false_implies, true_implies, implies_true, b2i_0, b2i_1, b2i_01, up_sc, sc_at, sc_sc, ite_true, ite_false, if_true, if_false, Nat.reduceEqDiff, reduceIte, x64]
    repeat' (first | intro _ | refine And.intro ?_ ?_)
    all_goals first | exact hK | omega
theorem x67 (hr : rL σ 7 f) (hp : rP σ 7 f) (ht : tree f) {p l : Int} : Rn 67 0 [some (vR 1), some (vI p), some (vI l)] [] (T0 n) σ K ↔ K (some (vI (if ((0 ≤ p ∧ p < 40) ∧ f p = 1) ∧ (0 ≤ l ∧ l ≤ 10) then upF f l 10 p else -1))) (T0 n) σ := by
  refine Rn_iff fun K hK => ?_
  by_cases h : ((0 ≤ p ∧ p < 40) ∧ f p = 1) ∧ (0 ≤ l ∧ l ≤ 10)
  · rw [if_pos h] at hK
    simp only [s67_0, s67_1, s67_4, s67_5, s67_8, s67_11, s67_12, s67_15, s67_18, s67_19, s67_22, s67_23, s67_24, s67_27, s67_30, s67_31, sx_push, tf, List.length_cons, List.length_nil, Option.some.injEq, exists_eq_left', Nat.reduceAdd, Nat.reduceLeDiff, true_and, and_true, true_or, or_true, Int.zero_add, Nat.zero_le, eq_self, ne_eq, not_true_eq_false, not_false_eq_true, false_implies, true_implies, implies_true, b2i_0, b2i_1, b2i_01, up_sc, sc_at, sc_sc, ite_true, ite_false, if_true, if_false, Nat.reduceEqDiff, reduceIte, x49 isP7 hr, x64, x68 isP7 hr hp ht h.2.2 h.1.1.1 h.1.1.2 h.1.2]
    repeat' (first | intro _ | refine And.intro ?_ ?_)
    all_goals first | exact hK | omega
  · rw [if_neg h] at hK
    simp only [s67_0, s67_1, s67_4, s67_5, s67_8, s67_11, s67_12, s67_15, s67_18, s67_19, s67_22, s67_23, s67_24, s67_27, s67_30, s67_31, sx_push, tf, List.length_cons, List.length_nil, Option.some.injEq, exists_eq_left', Nat.reduceAdd, Nat.reduceLeDiff, true_and, and_true, true_or, or_true, Int.zero_add, Nat.zero_le, eq_self, ne_eq, not_true_eq_false, not_false_eq_true, false_implies, true_implies, implies_true, b2i_0, b2i_1, b2i_01, up_sc, sc_at, sc_sc, ite_true, ite_false, if_true, if_false, Nat.reduceEqDiff, reduceIte, x49 isP7 hr, x64]
    repeat' (first | intro _ | refine And.intro ?_ ?_)
    all_goals first | exact hK | omega
theorem x92 (hr : rL σ 7 f) (hw : wfc f) {x y z d : Int} : Rn 92 0 [some (vR 1), some (vI x), some (vI y), some (vI z), some (vI d), none] [] (T0 n) σ K ↔ K (some (vI (if (0 ≤ x ∧ x ≤ 255) ∧ (0 ≤ y ∧ y ≤ 255) ∧ 0 ≤ z ∧ z ≤ 255 then fnd (fun p => decide (f p = 1 ∧ aheadF f x y z p = d)) 40 0 else -1))) (T0 n) σ := by
  refine Rn_iff fun K hK => ?_
  by_cases h : (0 ≤ x ∧ x ≤ 255) ∧ (0 ≤ y ∧ y ≤ 255) ∧ 0 ≤ z ∧ z ≤ 255
  · rw [if_pos h] at hK
    have pr := pk_rng h.1 h.2.1 h.2.2
    have e : plc x y z = pk x y z := if_pos h
    simp only [s92_0, s92_1, s92_2, s92_3, s92_6, s92_8, s92_10, s92_11, s92_14, s92_15, s92_18, s92_19, s92_22, s92_24, s92_26, s92_29, sx_push, tf, List.length_cons, List.length_nil, Option.some.injEq, exists_eq_left', Nat.reduceAdd, Nat.reduceLeDiff, true_and, and_true, true_or, or_true, Int.zero_add, Nat.zero_le, eq_self, ne_eq, not_true_eq_false, not_false_eq_true, false_implies, true_implies, implies_true, b2i_0, b2i_1, b2i_01, up_sc, sc_at, sc_sc, ite_true, ite_false, if_true, if_false, Nat.reduceEqDiff, reduceIte, x33, e, x93 isP7 hr hw h.1 h.2.1 h.2.2]
    repeat' (first | intro _ | refine And.intro ?_ ?_)
    all_goals first | exact hK | omega
  · rw [if_neg h] at hK
    have e : plc x y z = -1 := if_neg h
    simp only [s92_0, s92_1, s92_2, s92_3, s92_6, s92_8, s92_10, s92_11, s92_14, s92_15, s92_18, s92_19, s92_22, s92_24, s92_26, s92_29, sx_push, tf, List.length_cons, List.length_nil, Option.some.injEq, exists_eq_left', Nat.reduceAdd, Nat.reduceLeDiff, true_and, and_true, true_or, or_true, Int.zero_add, Nat.zero_le, eq_self, ne_eq, not_true_eq_false, not_false_eq_true, false_implies, true_implies, implies_true, b2i_0, b2i_1, b2i_01, up_sc, sc_at, sc_sc, ite_true, ite_false, if_true, if_false, Nat.reduceEqDiff, reduceIte, x33, e]
    repeat' (first | intro _ | refine And.intro ?_ ?_)
    all_goals first | exact hK | omega
theorem x95 (hr : rL σ 7 f) (hw : wfc f) {x y z d : Int} : Rn 95 0 [some (vR 1), some (vI x), some (vI y), some (vI z), some (vI d), none] [] (T0 n) σ K ↔ K (some (vI (if ((0 ≤ x ∧ x ≤ 255) ∧ (0 ≤ y ∧ y ≤ 255) ∧ 0 ≤ z ∧ z ≤ 255) ∧ (0 ≤ d ∧ d ≤ 999) then cnt (fun p => decide (f p = 1 ∧ farT f p x y z ≤ d)) 40 0 0 else -1))) (T0 n) σ := by
  refine Rn_iff fun K hK => ?_
  by_cases h : (0 ≤ x ∧ x ≤ 255) ∧ (0 ≤ y ∧ y ≤ 255) ∧ 0 ≤ z ∧ z ≤ 255
  · have pr := pk_rng h.1 h.2.1 h.2.2
    have e : plc x y z = pk x y z := if_pos h
    simp only [s95_0, s95_1, s95_2, s95_3, s95_6, s95_8, s95_10, s95_11, s95_14, s95_16, s95_19, s95_22, s95_23, s95_26, s95_27, s95_30, s95_32, s95_34, s95_37, sx_push, tf, List.length_cons, List.length_nil, Option.some.injEq, exists_eq_left', Nat.reduceAdd, Nat.reduceLeDiff, true_and, and_true, true_or, or_true, Int.zero_add, Nat.zero_le, eq_self, ne_eq, not_true_eq_false, not_false_eq_true, false_implies, true_implies, implies_true, b2i_0, b2i_1, b2i_01, up_sc, sc_at, sc_sc, ite_true, ite_false, if_true, if_false, Nat.reduceEqDiff, reduceIte, x33, e, x88, x96 isP7 hr hw h.1 h.2.1 h.2.2]
    repeat' (first | intro _ | refine And.intro ?_ ?_)
    all_goals first | omega | (rw [if_pos ⟨h, by omega⟩] at hK; exact hK) | (rw [if_neg (by omega)] at hK; exact hK)
  · rw [if_neg (fun z => h z.1)] at hK
    have e : plc x y z = -1 := if_neg h
    simp only [s95_0, s95_1, s95_2, s95_3, s95_6, s95_8, s95_10, s95_11, s95_14, s95_16, s95_19, s95_22, s95_23, s95_26, s95_27, s95_30, s95_32, s95_34, s95_37, sx_push, tf, List.length_cons, List.length_nil, Option.some.injEq, exists_eq_left', Nat.reduceAdd, Nat.reduceLeDiff, true_and, and_true, true_or, or_true, Int.zero_add, Nat.zero_le, eq_self, ne_eq, not_true_eq_false, not_false_eq_true, false_implies, true_implies, implies_true, b2i_0, b2i_1, b2i_01, up_sc, sc_at, sc_sc, ite_true, ite_false, if_true, if_false, Nat.reduceEqDiff, reduceIte, x33, e]
    repeat' (first | intro _ | refine And.intro ?_ ?_)
    all_goals first | exact hK | omega
end C5
