/-! reads of the reference: a point's, children, nets, within, nth -/
section M6
variable {n : Nat} {σ : sxS} {K : Option sxV → sxT → sxS → Prop}
theorem x210l (ht : tree (σ 150)) {q : Int} : ∀ (k : Nat) (p a : Int), p + k = 40 → 0 ≤ p → 0 ≤ a → a ≤ p → K (some (vI (cnt (fun p => decide (σ 150 p = 1 ∧ belF (σ 150) q 10 p = true)) k p a))) (T0 n) σ → Rn 210 4 [some (vR 149), some (vI q), some (vI a), some (vI p)] [] (T0 n) σ K := by
  intro k
  induction k with
  | zero =>
    intro p a hp h0 ha ha' hK
    rw [s210_4]
    simp only [s210_0, s210_1, s210_2, s210_3, s210_5, s210_7, s210_10, s210_11, s210_12, s210_15, s210_16, s210_17, s210_18, s210_19, s210_20, s210_23, s210_24, s210_25, s210_26, s210_29, s210_32, s210_33, s210_36, s210_37, s210_38, s210_39, s210_42, s210_45, s210_46, sx_push, tf, List.length_cons, List.length_nil, Option.some.injEq, exists_eq_left', Nat.reduceAdd, Nat.reduceLeDiff, true_and, and_true, true_or, or_true, Int.zero_add, Nat.zero_le, eq_self, ne_eq, not_true_eq_false, not_false_eq_true, false_implies, true_implies, implies_true, b2i_0, b2i_1, b2i_01, up_sc, sc_at, sc_sc, ite_true, ite_false, if_true, if_false, Nat.reduceEqDiff, reduceIte]
    repeat' (first | intro _ | refine And.intro ?_ ?_)
    all_goals first | exact hK | omega
  | succ k ih =>
    intro p a hp h0 ha ha' hK
    have h1 : p < 40 := by omega
    unfold cnt at hK
    simp only [decide_eq_true_eq] at hK
    rw [s210_4]
    by_cases c1 : σ 150 p = 1
    · simp only [s210_0, s210_1, s210_2, s210_3, s210_5, s210_7, s210_10, s210_11, s210_12, s210_15, s210_16, s210_17, s210_18, s210_19, s210_20, s210_23, s210_24, s210_25, s210_26, s210_29, s210_32, s210_33, s210_36, s210_37, s210_38, s210_39, s210_42, s210_45, s210_46, sx_push, tf, List.length_cons, List.length_nil, Option.some.injEq, exists_eq_left', Nat.reduceAdd, Nat.reduceLeDiff, true_and, and_true, true_or, or_true, Int.zero_add, Nat.zero_le, eq_self, ne_eq, not_true_eq_false, not_false_eq_true, false_implies, true_implies, implies_true, b2i_0, b2i_1, b2i_01, up_sc, sc_at, sc_sc, ite_true, ite_false, if_true, if_false, Nat.reduceEqDiff, reduceIte, x211 ht ⟨h0, h1⟩ c1, Int.add_zero]
      by_cases c2 : belF (σ 150) q 10 p = true
      · rw [if_pos ⟨c1, c2⟩] at hK
        repeat' (first | intro _ | refine And.intro ?_ ?_)
        all_goals first | omega | exact ih _ _ (by omega) (by omega) (by omega) (by omega) hK | (exfalso; contradiction)
      · rw [if_neg (fun z => c2 z.2)] at hK
        repeat' (first | intro _ | refine And.intro ?_ ?_)
        all_goals first | omega | exact ih _ _ (by omega) (by omega) (by omega) (by omega) hK | (exfalso; contradiction)
    · rw [if_neg (fun z => c1 z.1)] at hK
      simp only [s210_0, s210_1, s210_2, s210_3, s210_5, s210_7, s210_10, s210_11, s210_12, s210_15, s210_16, s210_17, s210_18, s210_19, s210_20, s210_23, s210_24, s210_25, s210_26, s210_29, s210_32, s210_33, s210_36, s210_37, s210_38, s210_39, s210_42, s210_45, s210_46, sx_push, tf, List.length_cons, List.length_nil, Option.some.injEq, exists_eq_left', Nat.reduceAdd, Nat.reduceLeDiff, true_and, and_true, true_or, or_true, Int.zero_add, Nat.zero_le, eq_self, ne_eq, not_true_eq_false, not_false_eq_true, false_implies, true_implies, implies_true, b2i_0, b2i_1, b2i_01, up_sc, sc_at, sc_sc, ite_true, ite_false, if_true, if_false, Nat.reduceEqDiff, reduceIte, Int.add_zero]
      repeat' (first | intro _ | refine And.intro ?_ ?_)
      all_goals first | omega | exact ih _ _ (by omega) (by omega) (by omega) (by omega) hK
theorem x210 (ht : tree (σ 150)) {q : Int} : Rn 210 0 [some (vR 149), some (vI q), none, none] [] (T0 n) σ K ↔ K (some (vI (cnt (fun p => decide (σ 150 p = 1 ∧ belF (σ 150) q 10 p = true)) 40 0 0))) (T0 n) σ := by
  refine Rn_iff fun K hK => ?_
  simp only [s210_0, s210_1, s210_2, s210_3, s210_5, s210_7, s210_10, s210_11, s210_12, s210_15, s210_16, s210_17, s210_18, s210_19, s210_20, s210_23, s210_24, s210_25, s210_26, s210_29, s210_32, s210_33, s210_36, s210_37, s210_38, s210_39, s210_42, s210_45, s210_46, sx_push, tf, List.length_cons, List.length_nil, Option.some.injEq, exists_eq_left', Nat.reduceAdd, Nat.reduceLeDiff, true_and, and_true, true_or, or_true, Int.zero_add, Nat.zero_le, eq_self, ne_eq, not_true_eq_false, not_false_eq_true, false_implies, true_implies, implies_true, b2i_0, b2i_1, b2i_01, up_sc, sc_at, sc_sc, ite_true, ite_false, if_true, if_false, Nat.reduceEqDiff, reduceIte]
  exact x210l ht 40 0 0 (by omega) (by omega) (by omega) (by omega) hK
def pointS (f : Int → Int) (p w : Int) : Int := if (0 ≤ p ∧ p < 40) ∧ f p = 1 then (if w = 0 then f (40 + p) else if w = 1 then f (80 + p) else if w = 2 then f (120 + p) else if w = 3 then f (160 + p) else if w = 4 then f (200 + p) else if w = 5 then cnt (fun q => decide (f q = 1 ∧ f (160 + q) < 10 ∧ f (200 + q) = p)) 40 0 0 else if w = 6 then cnt (fun q => decide (f q = 1 ∧ belF f p 10 q = true)) 40 0 0 else -1) else -1
theorem x207 (ht : tree (σ 150)) {p w : Int} : Rn 207 0 [some (vR 149), some (vI p), some (vI w)] [] (T0 n) σ K ↔ K (some (vI (pointS (σ 150) p w))) (T0 n) σ := by
  refine Rn_iff fun K hK => ?_
  unfold pointS at hK
  simp only [s207_0, s207_1, s207_2, s207_5, s207_8, s207_9, s207_10, s207_11, s207_52, s207_53, s207_56, s207_58, s207_59, s207_60, s207_61, s207_62, s207_63, s207_66, s207_68, s207_69, s207_70, s207_71, s207_72, s207_73, s207_76, s207_78, s207_79, s207_80, s207_81, s207_82, s207_83, s207_86, s207_89, s207_90, s207_91, s207_92, s207_93, s207_94, s207_97, s207_100, s207_101, s207_102, s207_103, s207_104, s207_105, s207_106, s207_109, s207_110, s207_111, s207_112, s207_115, s207_116, s207_117, sx_push, tf, List.length_cons, List.length_nil, Option.some.injEq, exists_eq_left', Nat.reduceAdd, Nat.reduceLeDiff, true_and, and_true, true_or, or_true, Int.zero_add, Nat.zero_le, eq_self, ne_eq, not_true_eq_false, not_false_eq_true, false_implies, true_implies, implies_true, b2i_0, b2i_1, b2i_01, up_sc, sc_at, sc_sc, ite_true, ite_false, if_true, if_false, Nat.reduceEqDiff, reduceIte, x205, x208, x210 ht, sx_sw]
  by_cases h : (0 ≤ p ∧ p < 40) ∧ σ 150 p = 1
  · rw [if_pos h] at hK
    repeat' (first | intro _ | refine And.intro ?_ ?_)
    all_goals first | omega | (exfalso; contradiction) | (subst_vars; exact hK) | (simp_all; done)
  · rw [if_neg h] at hK
    repeat' (first | intro _ | refine And.intro ?_ ?_)
    all_goals first | exact hK | omega
/-- among the children of a point one is ahead of another -/
def chA (f : Int → Int) (o q p : Int) : Prop := (f q = 1 ∧ f (160 + q) < 10 ∧ f (200 + q) = o) ∧ (f (160 + p) < f (160 + q) ∨ (f (160 + q) = f (160 + p) ∧ q < p))
theorem x214i {o kk p : Int} (h0 : 0 ≤ p) (h1 : p < 40) : ∀ (k : Nat) (q a : Int), q + k = 40 → 0 ≤ q → 0 ≤ a → a ≤ q → Rn 214 123 [some (vR 149), some (vI o), some (vI kk), some (vI p), some (vI (cnt (fun q => decide ((σ 150 q = 1 ∧ σ 150 (160 + q) < 10 ∧ σ 150 (200 + q) = o) ∧ (σ 150 (160 + p) < σ 150 (160 + q) ∨ (σ 150 (160 + q) = σ 150 (160 + p) ∧ q < p)))) k q a)), some (vI 40)] [] (T0 n) σ K → Rn 214 36 [some (vR 149), some (vI o), some (vI kk), some (vI p), some (vI a), some (vI q)] [] (T0 n) σ K := by
  intro k
  induction k with
  | zero =>
    intro q a hq g0 ha ha' hK
    obtain rfl : q = 40 := by omega
    rw [s214_36]
    simp only [s214_38, s214_40, s214_43, s214_45, s214_46, s214_48, s214_49, s214_52, s214_55, s214_56, s214_59, s214_62, s214_64, s214_65, s214_66, s214_67, s214_70, s214_73, s214_74, s214_75, s214_76, s214_79, s214_80, s214_83, s214_86, s214_88, s214_89, s214_90, s214_91, s214_94, s214_97, s214_98, s214_99, s214_100, s214_103, s214_105, s214_106, s214_109, s214_110, s214_113, s214_114, s214_115, s214_117, s214_120, sx_push, tf, List.length_cons, List.length_nil, Option.some.injEq, exists_eq_left', Nat.reduceAdd, Nat.reduceLeDiff, true_and, and_true, true_or, or_true, Int.zero_add, Nat.zero_le, eq_self, ne_eq, not_true_eq_false, not_false_eq_true, false_implies, true_implies, implies_true, b2i_0, b2i_1, b2i_01, up_sc, sc_at, sc_sc, ite_true, ite_false, if_true, if_false, Nat.reduceEqDiff, reduceIte]
    repeat' (first | intro _ | refine And.intro ?_ ?_)
    all_goals first | exact hK | omega
  | succ k ih =>
    intro q a hq g0 ha ha' hK
    have g1 : q < 40 := by omega
    unfold cnt at hK
    simp only [decide_eq_true_eq] at hK
    rw [s214_36]
    simp only [s214_38, s214_40, s214_43, s214_45, s214_46, s214_48, s214_49, s214_52, s214_55, s214_56, s214_59, s214_62, s214_64, s214_65, s214_66, s214_67, s214_70, s214_73, s214_74, s214_75, s214_76, s214_79, s214_80, s214_83, s214_86, s214_88, s214_89, s214_90, s214_91, s214_94, s214_97, s214_98, s214_99, s214_100, s214_103, s214_105, s214_106, s214_109, s214_110, s214_113, s214_114, s214_115, s214_117, s214_120, sx_push, tf, List.length_cons, List.length_nil, Option.some.injEq, exists_eq_left', Nat.reduceAdd, Nat.reduceLeDiff, true_and, and_true, true_or, or_true, Int.zero_add, Nat.zero_le, eq_self, ne_eq, not_true_eq_false, not_false_eq_true, false_implies, true_implies, implies_true, b2i_0, b2i_1, b2i_01, up_sc, sc_at, sc_sc, ite_true, ite_false, if_true, if_false, Nat.reduceEqDiff, reduceIte, x209 g0 g1, Int.add_zero]
    repeat' (first | intro _ | refine And.intro ?_ ?_)
    all_goals first | omega | (split at hK <;> first | omega | exact ih _ _ (by omega) (by omega) (by omega) (by omega) hK)
def childF (f : Int → Int) (o kk : Int) : Nat → Int → Int := fnd (fun p => decide ((f p = 1 ∧ f (160 + p) < 10 ∧ f (200 + p) = o) ∧ cnt (fun q => decide ((f q = 1 ∧ f (160 + q) < 10 ∧ f (200 + q) = o) ∧ (f (160 + p) < f (160 + q) ∨ (f (160 + q) = f (160 + p) ∧ q < p)))) 40 0 0 = kk))
theorem x214l {o kk : Int} : ∀ (k : Nat) (p : Int) (u v : Option sxV), p + k = 40 → 0 ≤ p → K (some (vI (childF (σ 150) o kk k p))) (T0 n) σ → Rn 214 12 [some (vR 149), some (vI o), some (vI kk), some (vI p), u, v] [] (T0 n) σ K := by
  intro k
  induction k with
  | zero =>
    intro p u v hp h0 hK
    rw [s214_12]
    simp only [s214_0, s214_1, s214_2, s214_5, s214_8, s214_9, s214_10, s214_11, s214_13, s214_15, s214_18, s214_19, s214_20, s214_21, s214_24, s214_27, s214_30, s214_31, s214_33, s214_34, s214_38, s214_40, s214_43, s214_45, s214_46, s214_48, s214_49, s214_52, s214_55, s214_56, s214_59, s214_62, s214_64, s214_65, s214_66, s214_67, s214_70, s214_73, s214_74, s214_75, s214_76, s214_79, s214_80, s214_83, s214_86, s214_88, s214_89, s214_90, s214_91, s214_94, s214_97, s214_98, s214_99, s214_100, s214_103, s214_105, s214_106, s214_109, s214_110, s214_113, s214_114, s214_115, s214_117, s214_120, s214_123, s214_125, s214_126, s214_129, s214_130, s214_131, s214_134, s214_137, s214_138, sx_push, tf, List.length_cons, List.length_nil, Option.some.injEq, exists_eq_left', Nat.reduceAdd, Nat.reduceLeDiff, true_and, and_true, true_or, or_true, Int.zero_add, Nat.zero_le, eq_self, ne_eq, not_true_eq_false, not_false_eq_true, false_implies, true_implies, implies_true, b2i_0, b2i_1, b2i_01, up_sc, sc_at, sc_sc, ite_true, ite_false, if_true, if_false, Nat.reduceEqDiff, reduceIte]
    repeat' (first | intro _ | refine And.intro ?_ ?_)
    all_goals first | exact hK | omega
  | succ k ih =>
    intro p u v hp h0 hK
    have h1 : p < 40 := by omega
    unfold childF fnd at hK
    simp only [decide_eq_true_eq] at hK
    rw [s214_12]
    by_cases c1 : σ 150 p = 1 ∧ σ 150 (160 + p) < 10 ∧ σ 150 (200 + p) = o
    · simp only [s214_13, s214_15, s214_18, s214_19, s214_20, s214_21, s214_24, s214_27, s214_30, s214_31, s214_33, s214_34, sx_push, tf, List.length_cons, List.length_nil, Option.some.injEq, exists_eq_left', Nat.reduceAdd, Nat.reduceLeDiff, true_and, and_true, true_or, or_true, Int.zero_add, Nat.zero_le, eq_self, ne_eq, not_true_eq_false, not_false_eq_true, false_implies, true_implies, implies_true, b2i_0, b2i_1, b2i_01, up_sc, sc_at, sc_sc, ite_true, ite_false, if_true, if_false, Nat.reduceEqDiff, reduceIte, x209 h0 h1, c1, and_self]
      refine ⟨fun h => by omega, fun h => ?_⟩
      refine x214i h0 h1 40 0 0 (by omega) (by omega) (by omega) (by omega) ?_
      simp only [s214_123, s214_125, s214_126, s214_129, s214_130, s214_131, s214_134, s214_137, s214_138, sx_push, tf, List.length_cons, List.length_nil, Option.some.injEq, exists_eq_left', Nat.reduceAdd, Nat.reduceLeDiff, true_and, and_true, true_or, or_true, Int.zero_add, Nat.zero_le, eq_self, ne_eq, not_true_eq_false, not_false_eq_true, false_implies, true_implies, implies_true, b2i_0, b2i_1, b2i_01, up_sc, sc_at, sc_sc, ite_true, ite_false, if_true, if_false, Nat.reduceEqDiff, reduceIte]
      repeat' (first | intro _ | refine And.intro ?_ ?_)
      all_goals first | omega | (split at hK <;> first | exact hK | omega | exact ih _ _ _ (by omega) (by omega) hK)
    · rw [if_neg (fun z => c1 z.1)] at hK
      simp only [s214_0, s214_1, s214_2, s214_5, s214_8, s214_9, s214_10, s214_11, s214_13, s214_15, s214_18, s214_19, s214_20, s214_21, s214_24, s214_27, s214_30, s214_31, s214_33, s214_34, s214_38, s214_40, s214_43, s214_45, s214_46, s214_48, s214_49, s214_52, s214_55, s214_56, s214_59, s214_62, s214_64, s214_65, s214_66, s214_67, s214_70, s214_73, s214_74, s214_75, s214_76, s214_79, s214_80, s214_83, s214_86, s214_88, s214_89, s214_90, s214_91, s214_94, s214_97, s214_98, s214_99, s214_100, s214_103, s214_105, s214_106, s214_109, s214_110, s214_113, s214_114, s214_115, s214_117, s214_120, s214_123, s214_125, s214_126, s214_129, s214_130, s214_131, s214_134, s214_137, s214_138, sx_push, tf, List.length_cons, List.length_nil, Option.some.injEq, exists_eq_left', Nat.reduceAdd, Nat.reduceLeDiff, true_and, and_true, true_or, or_true, Int.zero_add, Nat.zero_le, eq_self, ne_eq, not_true_eq_false, not_false_eq_true, false_implies, true_implies, implies_true, b2i_0, b2i_1, b2i_01, up_sc, sc_at, sc_sc, ite_true, ite_false, if_true, if_false, Nat.reduceEqDiff, reduceIte, x209 h0 h1]
      repeat' (first | intro _ | refine And.intro ?_ ?_)
      all_goals first | omega | exact ih _ _ _ (by omega) (by omega) hK
theorem x214 {o kk : Int} : Rn 214 0 [some (vR 149), some (vI o), some (vI kk), none, none, none] [] (T0 n) σ K ↔ K (some (vI (if (0 ≤ o ∧ o < 40) ∧ σ 150 o = 1 then childF (σ 150) o kk 40 0 else -1))) (T0 n) σ := by
  refine Rn_iff fun K hK => ?_
  simp only [s214_0, s214_1, s214_2, s214_5, s214_8, s214_9, s214_10, s214_11, s214_13, s214_15, s214_18, s214_19, s214_20, s214_21, s214_24, s214_27, s214_30, s214_31, s214_33, s214_34, s214_38, s214_40, s214_43, s214_45, s214_46, s214_48, s214_49, s214_52, s214_55, s214_56, s214_59, s214_62, s214_64, s214_65, s214_66, s214_67, s214_70, s214_73, s214_74, s214_75, s214_76, s214_79, s214_80, s214_83, s214_86, s214_88, s214_89, s214_90, s214_91, s214_94, s214_97, s214_98, s214_99, s214_100, s214_103, s214_105, s214_106, s214_109, s214_110, s214_113, s214_114, s214_115, s214_117, s214_120, s214_123, s214_125, s214_126, s214_129, s214_130, s214_131, s214_134, s214_137, s214_138, sx_push, tf, List.length_cons, List.length_nil, Option.some.injEq, exists_eq_left', Nat.reduceAdd, Nat.reduceLeDiff, true_and, and_true, true_or, or_true, Int.zero_add, Nat.zero_le, eq_self, ne_eq, not_true_eq_false, not_false_eq_true, false_implies, true_implies, implies_true, b2i_0, b2i_1, b2i_01, up_sc, sc_at, sc_sc, ite_true, ite_false, if_true, if_false, Nat.reduceEqDiff, reduceIte, x205]
  by_cases h : (0 ≤ o ∧ o < 40) ∧ σ 150 o = 1
  · rw [if_pos h] at hK
    repeat' (first | intro _ | refine And.intro ?_ ?_)
    all_goals first | omega | exact x214l 40 0 none none (by omega) (by omega) hK
  · rw [if_neg h] at hK
    repeat' (first | intro _ | refine And.intro ?_ ?_)
    all_goals first | exact hK | omega
/-- the k-th of those that are so, or how many (k -1) -/
def kth (c : Int → Bool) (kk : Int) : Nat → Int → Int → Int
  | 0, _, a => if kk = -1 then a else -1
  | k + 1, p, a => if c p = true then (if a = kk then p else kth c kk k (p + 1) (a + 1)) else kth c kk k (p + 1) a
theorem x217l {l kk : Int} : ∀ (k : Nat) (p a : Int), p + k = 40 → 0 ≤ p → 0 ≤ a → a ≤ p → K (some (vI (kth (fun p => decide (σ 150 p = 1 ∧ l ≤ σ 150 (160 + p))) kk k p a))) (T0 n) σ → Rn 217 22 [some (vR 149), some (vI l), some (vI kk), some (vI a), some (vI p)] [] (T0 n) σ K := by
  intro k
  induction k with
  | zero =>
    intro p a hp h0 ha ha' hK
    unfold kth at hK
    rw [s217_22]
    simp only [s217_0, s217_1, s217_2, s217_4, s217_7, s217_10, s217_11, s217_12, s217_15, s217_16, s217_17, s217_18, s217_19, s217_20, s217_24, s217_26, s217_29, s217_30, s217_32, s217_33, s217_36, s217_39, s217_42, s217_43, s217_44, s217_47, s217_49, s217_50, s217_53, s217_56, s217_59, s217_60, s217_61, s217_64, s217_65, s217_68, s217_69, sx_push, tf, List.length_cons, List.length_nil, Option.some.injEq, exists_eq_left', Nat.reduceAdd, Nat.reduceLeDiff, true_and, and_true, true_or, or_true, Int.zero_add, Nat.zero_le, eq_self, ne_eq, not_true_eq_false, not_false_eq_true, false_implies, true_implies, implies_true, b2i_0, b2i_1, b2i_01, up_sc, sc_at, sc_sc, ite_true, ite_false, if_true, if_false, Nat.reduceEqDiff, reduceIte]
    repeat' (first | intro _ | refine And.intro ?_ ?_)
    all_goals (first | exact hK | omega | (rw [b2i_t] at hK <;> first | exact hK | omega) | (rw [b2i_f] at hK <;> first | exact hK | omega) | (split at hK <;> first | exact hK | omega))
  | succ k ih =>
    intro p a hp h0 ha ha' hK
    have h1 : p < 40 := by omega
    unfold kth at hK
    simp only [decide_eq_true_eq] at hK
    rw [s217_22]
    simp only [s217_0, s217_1, s217_2, s217_4, s217_7, s217_10, s217_11, s217_12, s217_15, s217_16, s217_17, s217_18, s217_19, s217_20, s217_24, s217_26, s217_29, s217_30, s217_32, s217_33, s217_36, s217_39, s217_42, s217_43, s217_44, s217_47, s217_49, s217_50, s217_53, s217_56, s217_59, s217_60, s217_61, s217_64, s217_65, s217_68, s217_69, sx_push, tf, List.length_cons, List.length_nil, Option.some.injEq, exists_eq_left', Nat.reduceAdd, Nat.reduceLeDiff, true_and, and_true, true_or, or_true, Int.zero_add, Nat.zero_le, eq_self, ne_eq, not_true_eq_false, not_false_eq_true, false_implies, true_implies, implies_true, b2i_0, b2i_1, b2i_01, up_sc, sc_at, sc_sc, ite_true, ite_false, if_true, if_false, Nat.reduceEqDiff, reduceIte, x194 h0 h1]
    by_cases c1 : σ 150 p = 1 ∧ l ≤ σ 150 (160 + p)
    · rw [if_pos c1] at hK
      repeat' (first | intro _ | refine And.intro ?_ ?_)
      all_goals first | omega | (exfalso; contradiction) | (split at hK <;> first | exact hK | omega | exact ih _ _ (by omega) (by omega) (by omega) (by omega) hK)
    · rw [if_neg c1] at hK
      repeat' (first | intro _ | refine And.intro ?_ ?_)
      all_goals first | omega | (exfalso; contradiction) | exact ih _ _ (by omega) (by omega) (by omega) (by omega) hK
theorem x217 {l kk : Int} : Rn 217 0 [some (vR 149), some (vI l), some (vI kk), none, none] [] (T0 n) σ K ↔ K (some (vI (if (0 ≤ l ∧ l ≤ 10) ∧ -1 ≤ kk then kth (fun p => decide (σ 150 p = 1 ∧ l ≤ σ 150 (160 + p))) kk 40 0 0 else -1))) (T0 n) σ := by
  refine Rn_iff fun K hK => ?_
  simp only [s217_0, s217_1, s217_2, s217_4, s217_7, s217_10, s217_11, s217_12, s217_15, s217_16, s217_17, s217_18, s217_19, s217_20, s217_24, s217_26, s217_29, s217_30, s217_32, s217_33, s217_36, s217_39, s217_42, s217_43, s217_44, s217_47, s217_49, s217_50, s217_53, s217_56, s217_59, s217_60, s217_61, s217_64, s217_65, s217_68, s217_69, sx_push, tf, List.length_cons, List.length_nil, Option.some.injEq, exists_eq_left', Nat.reduceAdd, Nat.reduceLeDiff, true_and, and_true, true_or, or_true, Int.zero_add, Nat.zero_le, eq_self, ne_eq, not_true_eq_false, not_false_eq_true, false_implies, true_implies, implies_true, b2i_0, b2i_1, b2i_01, up_sc, sc_at, sc_sc, ite_true, ite_false, if_true, if_false, Nat.reduceEqDiff, reduceIte, x185]
  by_cases h : (0 ≤ l ∧ l ≤ 10) ∧ -1 ≤ kk
  · rw [if_pos h] at hK
    repeat' (first | intro _ | refine And.intro ?_ ?_)
    all_goals first | omega | exact x217l 40 0 0 (by omega) (by omega) (by omega) (by omega) hK
  · rw [if_neg h] at hK
    repeat' (first | intro _ | refine And.intro ?_ ?_)
    all_goals first | exact hK | omega
theorem x204 {p k : Int} : Rn 204 0 [some (vR 149), some (vI p), some (vI k)] [] (T0 n) σ K ↔ K (some (vI (if ((0 ≤ p ∧ p < 40) ∧ σ 150 p = 1) ∧ (0 ≤ k ∧ k ≤ 5) then σ 150 (240 + 6 * p + k) else -1))) (T0 n) σ := by
  refine Rn_iff fun K hK => ?_
  simp only [s204_0, s204_1, s204_2, s204_5, s204_8, s204_9, s204_10, s204_11, s204_14, s204_17, s204_18, s204_21, s204_24, s204_26, s204_27, s204_28, s204_29, s204_30, s204_31, s204_32, s204_35, s204_36, sx_push, tf, List.length_cons, List.length_nil, Option.some.injEq, exists_eq_left', Nat.reduceAdd, Nat.reduceLeDiff, true_and, and_true, true_or, or_true, Int.zero_add, Nat.zero_le, eq_self, ne_eq, not_true_eq_false, not_false_eq_true, false_implies, true_implies, implies_true, b2i_0, b2i_1, b2i_01, up_sc, sc_at, sc_sc, ite_true, ite_false, if_true, if_false, Nat.reduceEqDiff, reduceIte, x205, x185]
  by_cases h : ((0 ≤ p ∧ p < 40) ∧ σ 150 p = 1) ∧ (0 ≤ k ∧ k ≤ 5)
  · rw [if_pos h] at hK
    repeat' (first | intro _ | refine And.intro ?_ ?_)
    all_goals first | exact hK | omega
  · rw [if_neg h] at hK
    repeat' (first | intro _ | refine And.intro ?_ ?_)
    all_goals first | exact hK | omega
theorem x236l {x y z d : Int} (hw : wfc (σ 150)) (hx : in8 x) (hy : in8 y) (hz : in8 z) : ∀ (k : Nat) (p a : Int), p + k = 40 → 0 ≤ p → 0 ≤ a → a ≤ p → K (some (vI (cnt (fun p => decide (σ 150 p = 1 ∧ farT (σ 150) p x y z ≤ d)) k p a))) (T0 n) σ → Rn 236 29 [some (vR 149), some (vI x), some (vI y), some (vI z), some (vI d), some (vI a), some (vI p)] [] (T0 n) σ K := by
  intro k
  induction k with
  | zero =>
    intro p a hp h0 ha ha' hK
    rw [s236_29]
    simp only [s236_0, s236_1, s236_2, s236_3, s236_6, s236_9, s236_11, s236_12, s236_15, s236_18, s236_21, s236_22, s236_23, s236_24, s236_26, s236_27, s236_31, s236_33, s236_36, s236_38, s236_39, s236_42, s236_43, s236_45, s236_46, s236_47, s236_48, s236_51, s236_52, s236_54, s236_55, s236_56, s236_57, s236_60, s236_62, s236_65, s236_66, s236_69, s236_70, s236_71, s236_73, s236_76, s236_79, s236_81, sx_push, tf, List.length_cons, List.length_nil, Option.some.injEq, exists_eq_left', Nat.reduceAdd, Nat.reduceLeDiff, true_and, and_true, true_or, or_true, Int.zero_add, Nat.zero_le, eq_self, ne_eq, not_true_eq_false, not_false_eq_true, false_implies, true_implies, implies_true, b2i_0, b2i_1, b2i_01, up_sc, sc_at, sc_sc, ite_true, ite_false, if_true, if_false, Nat.reduceEqDiff, reduceIte]
    repeat' (first | intro _ | refine And.intro ?_ ?_)
    all_goals first | exact hK | omega
  | succ k ih =>
    intro p a hp h0 ha ha' hK
    have h1 : p < 40 := by omega
    unfold cnt at hK
    simp only [decide_eq_true_eq] at hK
    rw [s236_29]
    simp only [s236_0, s236_1, s236_2, s236_3, s236_6, s236_9, s236_11, s236_12, s236_15, s236_18, s236_21, s236_22, s236_23, s236_24, s236_26, s236_27, s236_31, s236_33, s236_36, s236_38, s236_39, s236_42, s236_43, s236_45, s236_46, s236_47, s236_48, s236_51, s236_52, s236_54, s236_55, s236_56, s236_57, s236_60, s236_62, s236_65, s236_66, s236_69, s236_70, s236_71, s236_73, s236_76, s236_79, s236_81, sx_push, tf, List.length_cons, List.length_nil, Option.some.injEq, exists_eq_left', Nat.reduceAdd, Nat.reduceLeDiff, true_and, and_true, true_or, or_true, Int.zero_add, Nat.zero_le, eq_self, ne_eq, not_true_eq_false, not_false_eq_true, false_implies, true_implies, implies_true, b2i_0, b2i_1, b2i_01, up_sc, sc_at, sc_sc, ite_true, ite_false, if_true, if_false, Nat.reduceEqDiff, reduceIte, x195 hw hx hy hz h0 h1, Int.add_zero]
    repeat' (first | intro _ | refine And.intro ?_ ?_)
    all_goals first | omega | (split at hK <;> first | omega | exact ih _ _ (by omega) (by omega) (by omega) (by omega) hK)
def isPl (x y z : Int) : Prop := (0 ≤ x ∧ x ≤ 255) ∧ (0 ≤ y ∧ y ≤ 255) ∧ 0 ≤ z ∧ z ≤ 255
theorem x236 {x y z d : Int} (hw : wfc (σ 150)) : Rn 236 0 [some (vR 149), some (vI x), some (vI y), some (vI z), some (vI d), none, none] [] (T0 n) σ K ↔ K (some (vI (if ((0 ≤ x ∧ x ≤ 255) ∧ (0 ≤ y ∧ y ≤ 255) ∧ 0 ≤ z ∧ z ≤ 255) ∧ (0 ≤ d ∧ d ≤ 999) then cnt (fun p => decide (σ 150 p = 1 ∧ farT (σ 150) p x y z ≤ d)) 40 0 0 else -1))) (T0 n) σ := by
  refine Rn_iff fun K hK => ?_
  simp only [s236_0, s236_1, s236_2, s236_3, s236_6, s236_9, s236_11, s236_12, s236_15, s236_18, s236_21, s236_22, s236_23, s236_24, s236_26, s236_27, s236_31, s236_33, s236_36, s236_38, s236_39, s236_42, s236_43, s236_45, s236_46, s236_47, s236_48, s236_51, s236_52, s236_54, s236_55, s236_56, s236_57, s236_60, s236_62, s236_65, s236_66, s236_69, s236_70, s236_71, s236_73, s236_76, s236_79, s236_81, sx_push, tf, List.length_cons, List.length_nil, Option.some.injEq, exists_eq_left', Nat.reduceAdd, Nat.reduceLeDiff, true_and, and_true, true_or, or_true, Int.zero_add, Nat.zero_le, eq_self, ne_eq, not_true_eq_false, not_false_eq_true, false_implies, true_implies, implies_true, b2i_0, b2i_1, b2i_01, up_sc, sc_at, sc_sc, ite_true, ite_false, if_true, if_false, Nat.reduceEqDiff, reduceIte, x226, x185]
  by_cases h : ((0 ≤ x ∧ x ≤ 255) ∧ (0 ≤ y ∧ y ≤ 255) ∧ 0 ≤ z ∧ z ≤ 255) ∧ (0 ≤ d ∧ d ≤ 999)
  · rw [if_pos h] at hK
    repeat' (first | intro _ | refine And.intro ?_ ?_)
    all_goals first | omega | exact x236l hw h.1.1 h.1.2.1 h.1.2.2 40 0 0 (by omega) (by omega) (by omega) (by omega) hK
  · rw [if_neg h] at hK
    repeat' (first | intro _ | refine And.intro ?_ ?_)
    all_goals first | exact hK | omega
end M6
