/-! the reference: has, found, feed, what may come, draws -/
theorem up1_up1 (f : Int → Int) (i v w : Int) : up1 (up1 f i v) i w = up1 f i w := by
  funext j; unfold up1; split <;> rfl
theorem up1_ne {f : Int → Int} {i v j : Int} (h : j ≠ i) : up1 f i v j = f j := up1_n h
section M9
variable {n : Nat} {σ : sxS} {K : Option sxV → sxT → sxS → Prop}
def mxF (f : Int → Int) : Nat → Int → Int → Int
  | 0, _, a => a
  | k + 1, p, a => mxF f k (p + 1) (if f p = 1 ∧ f (160 + p) < 10 then max a (f (160 + p)) else a)
theorem x201l {w : Int} : ∀ (k : Nat) (p a : Int), p + k = 40 → 0 ≤ p → K (some (vI (mxF (σ 150) k p a))) (T0 n) σ → Rn 201 78 [some (vR 149), some (vI w), some (vI a), some (vI p)] [] (T0 n) σ K := by
  intro k
  induction k with
  | zero =>
    intro p a hp h0 hK
    rw [s201_78]
    simp only [s201_0, s201_1, s201_44, s201_45, s201_48, s201_49, s201_50, s201_53, s201_56, s201_57, s201_60, s201_63, s201_64, s201_67, s201_68, s201_69, s201_70, s201_73, s201_74, s201_75, s201_76, s201_77, s201_79, s201_81, s201_84, s201_85, s201_88, s201_89, s201_90, s201_91, s201_92, s201_93, s201_96, s201_97, s201_100, s201_103, s201_104, s201_105, s201_106, s201_108, s201_111, s201_112, s201_113, s201_116, s201_119, s201_120, s201_121, s201_122, s201_125, s201_126, s201_129, s201_132, s201_133, s201_134, s201_135, s201_138, s201_139, s201_140, s201_143, s201_144, s201_145, s201_148, s201_149, s201_150, sx_push, tf, List.length_cons, List.length_nil, Option.some.injEq, exists_eq_left', Nat.reduceAdd, Nat.reduceLeDiff, true_and, and_true, true_or, or_true, Int.zero_add, Nat.zero_le, eq_self, ne_eq, not_true_eq_false, not_false_eq_true, false_implies, true_implies, implies_true, b2i_0, b2i_1, b2i_01, up_sc, sc_at, sc_sc, ite_true, ite_false, if_true, if_false, Nat.reduceEqDiff, reduceIte]
    repeat' (first | intro _ | refine And.intro ?_ ?_)
    all_goals first | exact hK | omega
  | succ k ih =>
    intro p a hp h0 hK
    unfold mxF at hK
    rw [s201_78]
    simp only [s201_0, s201_1, s201_44, s201_45, s201_48, s201_49, s201_50, s201_53, s201_56, s201_57, s201_60, s201_63, s201_64, s201_67, s201_68, s201_69, s201_70, s201_73, s201_74, s201_75, s201_76, s201_77, s201_79, s201_81, s201_84, s201_85, s201_88, s201_89, s201_90, s201_91, s201_92, s201_93, s201_96, s201_97, s201_100, s201_103, s201_104, s201_105, s201_106, s201_108, s201_111, s201_112, s201_113, s201_116, s201_119, s201_120, s201_121, s201_122, s201_125, s201_126, s201_129, s201_132, s201_133, s201_134, s201_135, s201_138, s201_139, s201_140, s201_143, s201_144, s201_145, s201_148, s201_149, s201_150, sx_push, tf, List.length_cons, List.length_nil, Option.some.injEq, exists_eq_left', Nat.reduceAdd, Nat.reduceLeDiff, true_and, and_true, true_or, or_true, Int.zero_add, Nat.zero_le, eq_self, ne_eq, not_true_eq_false, not_false_eq_true, false_implies, true_implies, implies_true, b2i_0, b2i_1, b2i_01, up_sc, sc_at, sc_sc, ite_true, ite_false, if_true, if_false, Nat.reduceEqDiff, reduceIte, x199]
    repeat' (first | intro _ | refine And.intro ?_ ?_)
    all_goals first | omega | (split at hK <;> first | omega | exact ih _ _ (by omega) (by omega) hK)
def hasS (s f : Int → Int) (w : Int) : Int := if w = 0 then cntF f 40 0 0 else if w = 1 then (if s 6 = 0 then -1 else f 480) else if w = 2 then rootF f 40 0 else if w = 3 then mxF f 40 0 (-1) else if w = 4 then s 36 else if w = 5 then s 4 else if w = 6 then s 5 else -1
theorem x201 {w : Int} (h01 : ∀ p, 0 ≤ p → p < 40 → σ 150 p = 0 ∨ σ 150 p = 1) : Rn 201 0 [some (vR 149), some (vI w), none, none] [] (T0 n) σ K ↔ K (some (vI (hasS (σ 149) (σ 150) w))) (T0 n) σ := by
  refine Rn_iff fun K hK => ?_
  simp only [s201_0, s201_1, s201_44, s201_45, s201_48, s201_49, s201_50, s201_53, s201_56, s201_57, s201_60, s201_63, s201_64, s201_67, s201_68, s201_69, s201_70, s201_73, s201_74, s201_75, s201_76, s201_77, s201_79, s201_81, s201_84, s201_85, s201_88, s201_89, s201_90, s201_91, s201_92, s201_93, s201_96, s201_97, s201_100, s201_103, s201_104, s201_105, s201_106, s201_108, s201_111, s201_112, s201_113, s201_116, s201_119, s201_120, s201_121, s201_122, s201_125, s201_126, s201_129, s201_132, s201_133, s201_134, s201_135, s201_138, s201_139, s201_140, s201_143, s201_144, s201_145, s201_148, s201_149, s201_150, sx_push, tf, List.length_cons, List.length_nil, Option.some.injEq, exists_eq_left', Nat.reduceAdd, Nat.reduceLeDiff, true_and, and_true, true_or, or_true, Int.zero_add, Nat.zero_le, eq_self, ne_eq, not_true_eq_false, not_false_eq_true, false_implies, true_implies, implies_true, b2i_0, b2i_1, b2i_01, up_sc, sc_at, sc_sc, ite_true, ite_false, if_true, if_false, Nat.reduceEqDiff, reduceIte, sx_sw, x202 h01, x203]
  refine ⟨fun h => ?_, fun h0 => ⟨fun h => ⟨fun g => ?_, fun g => ⟨by omega, ?_⟩⟩, fun h1 => ⟨fun h => ?_, fun h2 => ⟨fun h => ?_, fun h3 => ⟨fun h => ?_, fun h4 => ⟨fun h => ?_, fun h5 => ⟨fun h => ?_, fun h6 => ?_⟩⟩⟩⟩⟩⟩⟩
  · subst h; exact hK
  · subst h; simp only [hasS, g] at hK; exact hK
  · subst h; simp only [hasS, g] at hK; exact hK
  · subst h; exact hK
  · subst h; exact x201l 40 0 (-1) (by omega) (by omega) hK
  · subst h; exact hK
  · subst h; exact hK
  · subst h; exact hK
  · unfold hasS at hK
    rw [if_neg h0, if_neg h1, if_neg h2, if_neg h3, if_neg h4, if_neg h5, if_neg h6] at hK
    exact hK
theorem x232 {w : Int} : Rn 232 0 [some (vR 149), some (vI w)] [] (T0 n) σ K ↔ K (some (vI (if σ 149 26 = 0 then -1 else if w = 0 then σ 149 27 else if w = 1 then σ 149 28 else if w = 2 then σ 149 30 else if w = 3 then σ 149 29 else -1))) (T0 n) σ := by
  refine Rn_iff fun K hK => ?_
  simp only [s232_0, s232_1, s232_4, s232_7, s232_8, s232_9, s232_10, s232_13, s232_14, s232_17, s232_20, s232_21, s232_22, s232_25, s232_26, s232_29, s232_32, s232_33, s232_34, s232_37, s232_38, s232_41, s232_44, s232_45, s232_46, s232_49, s232_50, s232_53, s232_56, s232_57, sx_push, tf, List.length_cons, List.length_nil, Option.some.injEq, exists_eq_left', Nat.reduceAdd, Nat.reduceLeDiff, true_and, and_true, true_or, or_true, Int.zero_add, Nat.zero_le, eq_self, ne_eq, not_true_eq_false, not_false_eq_true, false_implies, true_implies, implies_true, b2i_0, b2i_1, b2i_01, up_sc, sc_at, sc_sc, ite_true, ite_false, if_true, if_false, Nat.reduceEqDiff, reduceIte]
  repeat' (first | intro _ | refine And.intro ?_ ?_)
  all_goals first | omega | (repeat' (split at hK)) <;> first | exact hK | omega
theorem x233 {k w : Int} (h0 : 0 ≤ σ 149 30) (h1 : σ 149 30 ≤ 40) : Rn 233 0 [some (vR 149), some (vI k), some (vI w)] [] (T0 n) σ K ↔ K (some (vI (if (0 ≤ k ∧ k ≤ σ 149 30 - 1) ∧ (0 ≤ w ∧ w ≤ 3) then σ 161 (4 * k + w) else -1))) (T0 n) σ := by
  refine Rn_iff fun K hK => ?_
  simp only [s233_0, s233_1, s233_2, s233_3, s233_6, s233_7, s233_8, s233_11, s233_14, s233_15, s233_16, s233_17, s233_20, s233_23, s233_24, s233_27, s233_28, s233_29, s233_30, s233_31, s233_32, s233_33, s233_36, s233_37, sx_push, tf, List.length_cons, List.length_nil, Option.some.injEq, exists_eq_left', Nat.reduceAdd, Nat.reduceLeDiff, true_and, and_true, true_or, or_true, Int.zero_add, Nat.zero_le, eq_self, ne_eq, not_true_eq_false, not_false_eq_true, false_implies, true_implies, implies_true, b2i_0, b2i_1, b2i_01, up_sc, sc_at, sc_sc, ite_true, ite_false, if_true, if_false, Nat.reduceEqDiff, reduceIte, x185]
  repeat' (first | intro _ | refine And.intro ?_ ?_)
  all_goals (first | exact hK | omega | (rw [b2i_t] at hK <;> first | exact hK | omega) | (rw [b2i_f] at hK <;> first | exact hK | omega) | (split at hK <;> first | exact hK | omega))
theorem x250 {x y z : Int} : Rn 250 0 [some (vR 149), some (vI x), some (vI y), some (vI z)] [] (T0 n) σ K ↔ K (some (vI (b2i (σ 149 6 ≠ 0 ∧ ((0 ≤ x ∧ x ≤ 255) ∧ (0 ≤ y ∧ y ≤ 255) ∧ 0 ≤ z ∧ z ≤ 255) ∧ fnd (fun p => decide (σ 150 p = 1 ∧ σ 150 (40 + p) = x ∧ σ 150 (80 + p) = y ∧ σ 150 (120 + p) = z)) 40 0 = -1 ∧ fnd (fun p => decide (σ 150 p = 0)) 40 0 ≠ -1)))) (T0 n) σ := by
  refine Rn_iff fun K hK => ?_
  simp only [s250_0, s250_1, s250_4, s250_7, s250_8, s250_9, s250_10, s250_13, s250_16, s250_17, s250_18, s250_19, s250_20, s250_23, s250_24, s250_27, s250_28, s250_31, s250_32, s250_35, s250_36, s250_39, s250_40, sx_push, tf, List.length_cons, List.length_nil, Option.some.injEq, exists_eq_left', Nat.reduceAdd, Nat.reduceLeDiff, true_and, and_true, true_or, or_true, Int.zero_add, Nat.zero_le, eq_self, ne_eq, not_true_eq_false, not_false_eq_true, false_implies, true_implies, implies_true, b2i_0, b2i_1, b2i_01, up_sc, sc_at, sc_sc, ite_true, ite_false, if_true, if_false, Nat.reduceEqDiff, reduceIte, x226, x213, x251]
  repeat' (first | intro _ | refine And.intro ?_ ?_)
  all_goals (first | exact hK | omega | (rw [b2i_t] at hK <;> first | exact hK | omega) | (rw [b2i_f] at hK <;> first | exact hK | omega) | (split at hK <;> first | exact hK | omega))
theorem x249 {x y z w : Int} (hw : wfc (σ 150)) : Rn 249 0 [some (vR 149), some (vI x), some (vI y), some (vI z), some (vI w), none] [] (T0 n) σ K ↔ K (some (vI (if (σ 149 6 ≠ 0 ∧ ((0 ≤ x ∧ x ≤ 255) ∧ (0 ≤ y ∧ y ≤ 255) ∧ 0 ≤ z ∧ z ≤ 255) ∧ fnd (fun p => decide (σ 150 p = 1 ∧ σ 150 (40 + p) = x ∧ σ 150 (80 + p) = y ∧ σ 150 (120 + p) = z)) 40 0 = -1 ∧ fnd (fun p => decide (σ 150 p = 0)) 40 0 ≠ -1) ∧ (0 ≤ w ∧ w ≤ 1) then (if w = 0 then levelO (σ 150) x y z else if levelO (σ 150) x y z = 10 then -1 else near (σ 150) (levelO (σ 150) x y z + 1) x y z) else -1))) (T0 n) σ := by
  refine Rn_iff fun K hK => ?_
  have hl : 0 ≤ levelO (σ 150) x y z ∧ levelO (σ 150) x y z ≤ 10 := levelF_in (σ 150) x y z 10 1 (by omega) (by omega)
  by_cases hp : (0 ≤ x ∧ x ≤ 255) ∧ (0 ≤ y ∧ y ≤ 255) ∧ 0 ≤ z ∧ z ≤ 255
  · simp only [s249_0, s249_1, s249_2, s249_3, s249_4, s249_7, s249_10, s249_12, s249_13, s249_14, s249_17, s249_20, s249_21, s249_22, s249_23, s249_24, s249_25, s249_26, s249_29, s249_31, s249_33, s249_36, s249_38, s249_41, s249_43, s249_45, s249_48, s249_49, s249_52, s249_53, s249_55, s249_56, s249_57, s249_58, s249_59, s249_60, s249_63, sx_push, tf, List.length_cons, List.length_nil, Option.some.injEq, exists_eq_left', Nat.reduceAdd, Nat.reduceLeDiff, true_and, and_true, true_or, or_true, Int.zero_add, Nat.zero_le, eq_self, ne_eq, not_true_eq_false, not_false_eq_true, false_implies, true_implies, implies_true, b2i_0, b2i_1, b2i_01, up_sc, sc_at, sc_sc, ite_true, ite_false, if_true, if_false, Nat.reduceEqDiff, reduceIte, x250, x185, x192 hw hp.1 hp.2.1 hp.2.2, x193 hw hp.1 hp.2.1 hp.2.2]
    repeat' (first | intro _ | refine And.intro ?_ ?_)
    all_goals first | omega | (repeat' (split at hK)) <;> first | exact hK | omega
  · rw [if_neg (fun z => hp z.1.2.1)] at hK
    simp only [s249_0, s249_1, s249_2, s249_3, s249_4, s249_7, s249_10, s249_12, s249_13, s249_14, s249_17, s249_20, s249_21, s249_22, s249_23, s249_24, s249_25, s249_26, s249_29, s249_31, s249_33, s249_36, s249_38, s249_41, s249_43, s249_45, s249_48, s249_49, s249_52, s249_53, s249_55, s249_56, s249_57, s249_58, s249_59, s249_60, s249_63, sx_push, tf, List.length_cons, List.length_nil, Option.some.injEq, exists_eq_left', Nat.reduceAdd, Nat.reduceLeDiff, true_and, and_true, true_or, or_true, Int.zero_add, Nat.zero_le, eq_self, ne_eq, not_true_eq_false, not_false_eq_true, false_implies, true_implies, implies_true, b2i_0, b2i_1, b2i_01, up_sc, sc_at, sc_sc, ite_true, ite_false, if_true, if_false, Nat.reduceEqDiff, reduceIte, x250, x185]
    repeat' (first | intro _ | refine And.intro ?_ ?_)
    all_goals first | exact hK | omega
theorem x270 {p : Int} (h0 : 0 ≤ p) (h1 : p < 40) : Rn 270 0 [some (vR 149), some (vI p), none] [] (T0 n) σ K ↔ K none (T0 n) (sc σ 150 (blkF (fun _ => 0) (240 + 6 * p) (σ 150) 6)) := by
  have key : ∀ (k : Nat) (i : Int), i + k = 6 → 0 ≤ i → ∀ K : Option sxV → sxT → sxS → Prop, K none (T0 n) (sc σ 150 (blkF (fun _ => 0) (240 + 6 * p) (σ 150) 6)) → Rn 270 2 [some (vR 149), some (vI p), some (vI i)] [] (T0 n) (sc σ 150 (blkF (fun _ => 0) (240 + 6 * p) (σ 150) i)) K := by
    intro k
    induction k with
    | zero =>
      intro i hi g0 K hK
      obtain rfl : i = 6 := by omega
      rw [s270_2]
      simp only [s270_0, s270_1, s270_3, s270_5, s270_8, s270_9, s270_12, s270_15, s270_17, s270_18, s270_19, s270_20, s270_21, s270_22, s270_23, s270_24, s270_27, s270_30, sx_push, tf, List.length_cons, List.length_nil, Option.some.injEq, exists_eq_left', Nat.reduceAdd, Nat.reduceLeDiff, true_and, and_true, true_or, or_true, Int.zero_add, Nat.zero_le, eq_self, ne_eq, not_true_eq_false, not_false_eq_true, false_implies, true_implies, implies_true, b2i_0, b2i_1, b2i_01, up_sc, sc_at, sc_sc, ite_true, ite_false, if_true, if_false, Nat.reduceEqDiff, reduceIte]
      repeat' (first | intro _ | refine And.intro ?_ ?_)
      all_goals first | exact hK | omega
    | succ k ih =>
      intro i hi g0 K hK
      have e := blkF_s (g := fun _ => 0) (b := 240 + 6 * p) (h := σ 150) g0
      rw [s270_2]
      simp only [s270_0, s270_1, s270_3, s270_5, s270_8, s270_9, s270_12, s270_15, s270_17, s270_18, s270_19, s270_20, s270_21, s270_22, s270_23, s270_24, s270_27, s270_30, sx_push, tf, List.length_cons, List.length_nil, Option.some.injEq, exists_eq_left', Nat.reduceAdd, Nat.reduceLeDiff, true_and, and_true, true_or, or_true, Int.zero_add, Nat.zero_le, eq_self, ne_eq, not_true_eq_false, not_false_eq_true, false_implies, true_implies, implies_true, b2i_0, b2i_1, b2i_01, up_sc, sc_at, sc_sc, ite_true, ite_false, if_true, if_false, Nat.reduceEqDiff, reduceIte, e]
      repeat' (first | intro _ | refine And.intro ?_ ?_)
      all_goals first | omega | exact ih _ (by omega) (by omega) K hK
  refine Rn_iff fun K hK => ?_
  simp only [s270_0, s270_1, s270_3, s270_5, s270_8, s270_9, s270_12, s270_15, s270_17, s270_18, s270_19, s270_20, s270_21, s270_22, s270_23, s270_24, s270_27, s270_30, sx_push, tf, List.length_cons, List.length_nil, Option.some.injEq, exists_eq_left', Nat.reduceAdd, Nat.reduceLeDiff, true_and, and_true, true_or, or_true, Int.zero_add, Nat.zero_le, eq_self, ne_eq, not_true_eq_false, not_false_eq_true, false_implies, true_implies, implies_true, b2i_0, b2i_1, b2i_01, up_sc, sc_at, sc_sc, ite_true, ite_false, if_true, if_false, Nat.reduceEqDiff, reduceIte]
  have := key 6 0 (by omega) (by omega) K hK
  rw [blkF_0, sc_id] at this
  exact this
theorem x168 {a b c d e : Int} (ha : inI a) (hb : inI b) (hc : inI c) (hd : inI d) (he : inI e) (h0 : 0 ≤ σ 149 8) (h1 : σ 149 8 ≤ 1600) (hr : inI (σ 155 0 + 1)) : Rn 168 0 [some (vR 149), some (vI a), some (vI b), some (vI c), some (vI d), some (vI e)] [] (T0 n) σ K ↔ K (some (vI (if σ 149 8 + 20 ≤ 1600 then σ 149 8 + 20 else -1))) (T0 n) (if σ 149 8 + 20 ≤ 1600 then sc (sc σ 149 (up1 (σ 149) 8 (σ 149 8 + 20))) 154 (layF (layF (layF (layF (layF (σ 154) (σ 149 8) a 4) (σ 149 8 + 4) b 4) (σ 149 8 + 8) c 4) (σ 149 8 + 12) d 4) (σ 149 8 + 16) e 4) else sc σ 155 (up1 (σ 155) 0 (σ 155 0 + 1))) := by
  refine Rn_iff fun K hK => ?_
  by_cases h : σ 149 8 + 20 ≤ 1600
  · rw [if_pos h, if_pos h] at hK
    simp (disch := first | omega | (simp only [sc_at, up1_s, Nat.reduceEqDiff, reduceIte]; omega)) only [s168_0, s168_1, s168_4, s168_6, s168_7, s168_10, s168_13, s168_14, s168_15, s168_18, s168_19, s168_20, s168_21, s168_24, s168_25, s168_26, s168_29, s168_30, s168_31, s168_34, s168_35, s168_37, s168_40, s168_41, s168_43, s168_46, s168_47, s168_50, x170, scm, up1_s, up1_up1, Int.add_assoc, Int.reduceAdd, Int.reduceSub, Int.reduceMul, Int.reduceNeg, Int.reduceLT, Int.reduceLE, Int.reduceEq, Int.reduceNe, Int.reduceToNat, Int.reducePow, Nat.reduceLT, sx_push, tf, List.length_cons, List.length_nil, Option.some.injEq, exists_eq_left', Nat.reduceAdd, Nat.reduceLeDiff, true_and, and_true, true_or, or_true, Int.zero_add, Nat.zero_le, eq_self, ne_eq, not_true_eq_false, not_false_eq_true, false_implies, true_implies, implies_true, b2i_0, b2i_1, b2i_01, up_sc, sc_at, sc_sc, ite_true, ite_false, if_true, if_false, Nat.reduceEqDiff, reduceIte]
    repeat' (first | intro _ | refine And.intro ?_ ?_)
    all_goals first | exact hK | omega
  · rw [if_neg h, if_neg h] at hK
    simp only [s168_0, s168_1, s168_4, s168_6, s168_7, s168_10, s168_13, s168_14, s168_15, s168_18, s168_19, s168_20, s168_21, s168_24, s168_25, s168_26, s168_29, s168_30, s168_31, s168_34, s168_35, s168_37, s168_40, s168_41, s168_43, s168_46, s168_47, s168_50, sx_push, tf, List.length_cons, List.length_nil, Option.some.injEq, exists_eq_left', Nat.reduceAdd, Nat.reduceLeDiff, true_and, and_true, true_or, or_true, Int.zero_add, Nat.zero_le, eq_self, ne_eq, not_true_eq_false, not_false_eq_true, false_implies, true_implies, implies_true, b2i_0, b2i_1, b2i_01, up_sc, sc_at, sc_sc, ite_true, ite_false, if_true, if_false, Nat.reduceEqDiff, reduceIte, x169 (w := 0) (by omega) (by omega) hr]
    repeat' (first | intro _ | refine And.intro ?_ ?_)
    all_goals first | exact hK | omega
theorem x269 {x y z : Int} (hw : wfc (σ 150)) (hx : in8 x) (hy : in8 y) (hz : in8 z) (hf : fnd (fun p => decide (σ 150 p = 0)) 40 0 ≠ -1) : Rn 269 0 [some (vR 149), some (vI x), some (vI y), some (vI z), none] [] (T0 n) σ K ↔ K (some (vI (fnd (fun p => decide (σ 150 p = 0)) 40 0))) (T0 n) (sc σ 150 (comesF (blkF (fun _ => 0) (240 + 6 * fnd (fun p => decide (σ 150 p = 0)) 40 0) (σ 150) 6) (fnd (fun p => decide (σ 150 p = 0)) 40 0) x y z)) := by
  refine Rn_iff fun K hK => ?_
  have hin := fnd_in (fun p => decide (σ 150 p = 0)) 40 0
  generalize hp : fnd (fun p => decide (σ 150 p = 0)) 40 0 = p at hK hin hf ⊢
  have hw' : wfc (blkF (fun _ => 0) (240 + 6 * p) (σ 150) 6) := by
    intro q g0 g1
    have := hw q g0 g1
    unfold blkF
    rw [if_neg (by omega), if_neg (by omega), if_neg (by omega)]
    exact this
  simp only [s269_0, s269_1, s269_4, s269_6, s269_7, s269_9, s269_12, s269_13, s269_15, s269_16, s269_17, s269_18, s269_21, s269_23, sx_push, tf, List.length_cons, List.length_nil, Option.some.injEq, exists_eq_left', Nat.reduceAdd, Nat.reduceLeDiff, true_and, and_true, true_or, or_true, Int.zero_add, Nat.zero_le, eq_self, ne_eq, not_true_eq_false, not_false_eq_true, false_implies, true_implies, implies_true, b2i_0, b2i_1, b2i_01, up_sc, sc_at, sc_sc, ite_true, ite_false, if_true, if_false, Nat.reduceEqDiff, reduceIte, x251, hp, x270 (show 0 ≤ p by omega) (show p < 40 by omega), x191 (σ := sc σ 150 (blkF (fun _ => 0) (240 + 6 * p) (σ 150) 6)) (by rw [sc_at, if_pos rfl]; exact hw') hx hy hz (show 0 ≤ p by omega) (show p < 40 by omega)]
  exact hK
def drawF (s : Int) : Int := (1103515245 * s + 12345) % 2147483648
theorem drawF_in (s : Int) : 0 ≤ drawF s ∧ drawF s < 2147483648 := by unfold drawF; omega
theorem x277 {m : Int} (h0 : 0 ≤ σ 149 5) (h1 : σ 149 5 < 2147483648) (hm : 0 < m) (hm' : m ≤ 1000) : Rn 277 0 [some (vR 149), some (vI m)] [] (T0 n) σ K ↔ K (some (vI (drawF (σ 149 5) / 64 % m))) (T0 n) (sc σ 149 (up1 (σ 149) 5 (drawF (σ 149 5)))) := by
  refine Rn_iff fun K hK => ?_
  have hd := drawF_in (σ 149 5)
  have e1 : (1103515245 * σ 149 5 + 12345).tmod 2147483648 = drawF (σ 149 5) := Int.tmod_eq_emod_of_nonneg (by omega)
  have e2 : (drawF (σ 149 5)).tdiv 64 = drawF (σ 149 5) / 64 := Int.tdiv_eq_ediv_of_nonneg (by omega)
  have e3 : (drawF (σ 149 5) / 64).tmod m = drawF (σ 149 5) / 64 % m := Int.tmod_eq_emod_of_nonneg (by omega)
  have h3 := Int.emod_nonneg (drawF (σ 149 5) / 64) (show m ≠ 0 by omega)
  have h4 := Int.emod_lt_of_pos (drawF (σ 149 5) / 64) hm
  simp only [s277_0, s277_1, s277_4, s277_5, s277_8, s277_9, s277_10, s277_13, s277_14, s277_17, s277_18, s277_19, s277_22, s277_23, s277_26, s277_28, s277_29, s277_30, s277_31, sx_push, tf, List.length_cons, List.length_nil, Option.some.injEq, exists_eq_left', Nat.reduceAdd, Nat.reduceLeDiff, true_and, and_true, true_or, or_true, Int.zero_add, Nat.zero_le, eq_self, ne_eq, not_true_eq_false, not_false_eq_true, false_implies, true_implies, implies_true, b2i_0, b2i_1, b2i_01, up_sc, sc_at, sc_sc, ite_true, ite_false, if_true, if_false, Nat.reduceEqDiff, reduceIte, e1, up1_s, e2, e3]
  repeat' (first | intro _ | refine And.intro ?_ ?_)
  all_goals first | exact hK | omega
end M9
