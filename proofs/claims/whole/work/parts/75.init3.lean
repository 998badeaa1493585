/-! the constructors: the class, field by field -/
section I3
variable {n : Nat} {σ : sxS} {K : Option sxV → sxT → sxS → Prop}
theorem x1_4 (hK : Rn 1 15 [some (vR 1)] [] ((23, n, []) :: Sj 1 2) σ K) : Rn 1 4 [some (vR 1)] [] ((23, n, []) :: Sj 0 0) σ K := by
  have len : ((23, n, []) :: Sj 0 0 : sxT).length = 2 := by rw [List.length_cons, show (Sj 0 0).length = 1 by decide +kernel]
  have e : sx_setR (((23, n, []) :: Sj 0 0 : sxT) ++ [(6, 2, [some (2 + 1), none]), (20, 1600, [])]) 1 0 2 = (23, n, []) :: Sj 1 2 := congrArg (List.cons (23, n, [])) (show sx_setR (Sj 0 0 ++ [(6, 2, [some (2 + 1), none]), (20, 1600, [])]) 0 0 2 = Sj 1 2 by decide +kernel)
  have kd : sx_kd (((23, n, []) :: Sj 0 0 : sxT) ++ [(6, 2, [some (2 + 1), none]), (20, 1600, [])]) 1 = 8 := by rw [kL (by rw [len]; decide)]; exact (show sx_kd (Sj 0 0) 0 = 8 by decide +kernel)
  have lt : ((23, n, []) :: Sj 0 0 : sxT).length < (((23, n, []) :: Sj 0 0 : sxT) ++ [(6, 2, [some (2 + 1), none]), (20, 1600, [])]).length := by rw [List.length_append]; exact Nat.lt_add_of_pos_right (by decide)
  have main : Rn 2 0 [some (vR ((23, n, []) :: Sj 0 0 : sxT).length)] [] (((23, n, []) :: Sj 0 0 : sxT) ++ [(6, 2, List.replicate 2 none)]) σ (fun r T' σ' => Rn 1 12 [some (vR 1)] (sx_push r [vR ((23, n, []) :: Sj 0 0 : sxT).length, vR 1]) T' σ' K) := by
    refine x2i (by rw [len]; decide) ?_
    rw [len] at lt ⊢
    simp only [s1_12, sx_push]
    refine ⟨⟨kd, lt⟩, ?_⟩
    rw [e]
    exact hK
  simp only [s1_4, s1_5, s1_8, s1_9]
  repeat' (first | intro _ | refine And.intro ?_ ?_)
  all_goals first | exact main | (rw [len]; decide) | (simp only [List.length_cons, List.length_nil]; omega)
theorem x1_15 (hK : Rn 1 30 [some (vR 1)] [] ((23, n, []) :: Sj 2 5) (sc σ 4 (up1 (σ 4) 6 (-1))) K) : Rn 1 15 [some (vR 1)] [] ((23, n, []) :: Sj 1 2) σ K := by
  have len : ((23, n, []) :: Sj 1 2 : sxT).length = 4 := by rw [List.length_cons, show (Sj 1 2).length = 3 by decide +kernel]
  have e : sx_setR (((23, n, []) :: Sj 1 2 : sxT) ++ [(5, 9, [some 2, some (4 + 1), some (4 + 2), none, none, none, none, none, none]), (20, 40, []), (20, 40, [])]) 1 1 4 = (23, n, []) :: Sj 2 5 := congrArg (List.cons (23, n, [])) (show sx_setR (Sj 1 2 ++ [(5, 9, [some 2, some (4 + 1), some (4 + 2), none, none, none, none, none, none]), (20, 40, []), (20, 40, [])]) 0 1 4 = Sj 2 5 by decide +kernel)
  have kd : sx_kd (((23, n, []) :: Sj 1 2 : sxT) ++ [(5, 9, [some 2, some (4 + 1), some (4 + 2), none, none, none, none, none, none]), (20, 40, []), (20, 40, [])]) 1 = 8 := by rw [kL (by rw [len]; decide)]; exact (show sx_kd (Sj 1 2) 0 = 8 by decide +kernel)
  have lt : ((23, n, []) :: Sj 1 2 : sxT).length < (((23, n, []) :: Sj 1 2 : sxT) ++ [(5, 9, [some 2, some (4 + 1), some (4 + 2), none, none, none, none, none, none]), (20, 40, []), (20, 40, [])]).length := by rw [List.length_append]; exact Nat.lt_add_of_pos_right (by decide)
  have main : Rn 3 0 [some (vR ((23, n, []) :: Sj 1 2 : sxT).length), some (vR 2)] [] (((23, n, []) :: Sj 1 2 : sxT) ++ [(5, 9, List.replicate 9 none)]) σ (fun r T' σ' => Rn 1 27 [some (vR 1)] (sx_push r [vR ((23, n, []) :: Sj 1 2 : sxT).length, vR 1]) T' σ' K) := by
    refine x3i (by rw [len]; decide) (by rw [len]; decide) ?_
    rw [len] at lt ⊢
    simp only [s1_27, sx_push]
    refine ⟨⟨kd, lt⟩, ?_⟩
    rw [e]
    exact hK
  have rf : sx_rf (((23, n, []) :: Sj 1 2 : sxT) ++ [(5, 9, List.replicate 9 none)]) 1 0 = some 2 := rfl
  have kd2 : sx_kd (((23, n, []) :: Sj 1 2 : sxT) ++ [(5, 9, List.replicate 9 none)]) 1 = 8 := rfl
  simp only [s1_15, s1_16, s1_19, s1_20, s1_21, s1_24, kd2, rf, Option.some.injEq, exists_eq_left', true_and]
  repeat' (first | intro _ | refine And.intro ?_ ?_)
  all_goals first | exact main | (rw [len]; decide) | (simp only [List.length_cons, List.length_nil]; omega)
theorem x1_30 (hK : ∀ σ', ptI σ σ' 7 → Rn 1 41 [some (vR 1)] [] ((23, n, []) :: Sj 3 10) σ' K) : Rn 1 30 [some (vR 1)] [] ((23, n, []) :: Sj 2 5) σ K := by
  have len : ((23, n, []) :: Sj 2 5 : sxT).length = 7 := by rw [List.length_cons, show (Sj 2 5).length = 6 by decide +kernel]
  have e : sx_setR (((23, n, []) :: Sj 2 5 : sxT) ++ ptB 7) 1 2 7 = (23, n, []) :: Sj 3 10 := congrArg (List.cons (23, n, [])) (show sx_setR (Sj 2 5 ++ ptB 7) 0 2 7 = Sj 3 10 by decide +kernel)
  have kd : sx_kd (((23, n, []) :: Sj 2 5 : sxT) ++ ptB 7) 1 = 8 := by rw [kL (by rw [len]; decide)]; exact (show sx_kd (Sj 2 5) 0 = 8 by decide +kernel)
  have lt : ((23, n, []) :: Sj 2 5 : sxT).length < (((23, n, []) :: Sj 2 5 : sxT) ++ ptB 7).length := by rw [List.length_append]; exact Nat.lt_add_of_pos_right (by decide)
  have main : Rn 4 0 [some (vR ((23, n, []) :: Sj 2 5 : sxT).length)] [] (((23, n, []) :: Sj 2 5 : sxT) ++ [(2, 7, List.replicate 7 none)]) σ (fun r T' σ' => Rn 1 38 [some (vR 1)] (sx_push r [vR ((23, n, []) :: Sj 2 5 : sxT).length, vR 1]) T' σ' K) := by
    refine x4i (by rw [len]; decide) (fun σ1 h1 => ?_)
    rw [len] at h1
    rw [len] at lt ⊢
    simp only [s1_38, sx_push]
    refine ⟨⟨kd, lt⟩, ?_⟩
    rw [e]
    exact hK σ1 h1
  simp only [s1_30, s1_31, s1_34, s1_35]
  repeat' (first | intro _ | refine And.intro ?_ ?_)
  all_goals first | exact main | (rw [len]; decide) | (simp only [List.length_cons, List.length_nil]; omega)
theorem x1_41 (hK : ∀ σ', ptI σ σ' 12 → Rn 1 52 [some (vR 1)] [] ((23, n, []) :: Sj 4 15) σ' K) : Rn 1 41 [some (vR 1)] [] ((23, n, []) :: Sj 3 10) σ K := by
  have len : ((23, n, []) :: Sj 3 10 : sxT).length = 12 := by rw [List.length_cons, show (Sj 3 10).length = 11 by decide +kernel]
  have e : sx_setR (((23, n, []) :: Sj 3 10 : sxT) ++ ptB 12) 1 3 12 = (23, n, []) :: Sj 4 15 := congrArg (List.cons (23, n, [])) (show sx_setR (Sj 3 10 ++ ptB 12) 0 3 12 = Sj 4 15 by decide +kernel)
  have kd : sx_kd (((23, n, []) :: Sj 3 10 : sxT) ++ ptB 12) 1 = 8 := by rw [kL (by rw [len]; decide)]; exact (show sx_kd (Sj 3 10) 0 = 8 by decide +kernel)
  have lt : ((23, n, []) :: Sj 3 10 : sxT).length < (((23, n, []) :: Sj 3 10 : sxT) ++ ptB 12).length := by rw [List.length_append]; exact Nat.lt_add_of_pos_right (by decide)
  have main : Rn 4 0 [some (vR ((23, n, []) :: Sj 3 10 : sxT).length)] [] (((23, n, []) :: Sj 3 10 : sxT) ++ [(2, 7, List.replicate 7 none)]) σ (fun r T' σ' => Rn 1 49 [some (vR 1)] (sx_push r [vR ((23, n, []) :: Sj 3 10 : sxT).length, vR 1]) T' σ' K) := by
    refine x4i (by rw [len]; decide) (fun σ1 h1 => ?_)
    rw [len] at h1
    rw [len] at lt ⊢
    simp only [s1_49, sx_push]
    refine ⟨⟨kd, lt⟩, ?_⟩
    rw [e]
    exact hK σ1 h1
  simp only [s1_41, s1_42, s1_45, s1_46]
  repeat' (first | intro _ | refine And.intro ?_ ?_)
  all_goals first | exact main | (rw [len]; decide) | (simp only [List.length_cons, List.length_nil]; omega)
theorem x1_63 (hK : Rn 1 79 [some (vR 1)] [] ((23, n, []) :: Sj 6 124) (sc σ 119 (up1 (up1 (σ 119) 10 (-1)) 1 (1))) K) : Rn 1 63 [some (vR 1)] [] ((23, n, []) :: Sj 5 117) σ K := by
  have len : ((23, n, []) :: Sj 5 117 : sxT).length = 119 := by rw [List.length_cons, show (Sj 5 117).length = 118 by decide +kernel]
  have e : sx_setR (((23, n, []) :: Sj 5 117 : sxT) ++ [(3, 12, [some 7, none, some (119 + 1), some (119 + 2), some (119 + 3), some (119 + 4), some (119 + 5), some (119 + 6), none, none, none, none]), (20, 40, []), (21, 40, []), (20, 40, []), (20, 40, []), (20, 40, []), (20, 40, [])]) 1 5 119 = (23, n, []) :: Sj 6 124 := congrArg (List.cons (23, n, [])) (show sx_setR (Sj 5 117 ++ [(3, 12, [some 7, none, some (119 + 1), some (119 + 2), some (119 + 3), some (119 + 4), some (119 + 5), some (119 + 6), none, none, none, none]), (20, 40, []), (21, 40, []), (20, 40, []), (20, 40, []), (20, 40, []), (20, 40, [])]) 0 5 119 = Sj 6 124 by decide +kernel)
  have kd : sx_kd (((23, n, []) :: Sj 5 117 : sxT) ++ [(3, 12, [some 7, none, some (119 + 1), some (119 + 2), some (119 + 3), some (119 + 4), some (119 + 5), some (119 + 6), none, none, none, none]), (20, 40, []), (21, 40, []), (20, 40, []), (20, 40, []), (20, 40, []), (20, 40, [])]) 1 = 8 := by rw [kL (by rw [len]; decide)]; exact (show sx_kd (Sj 5 117) 0 = 8 by decide +kernel)
  have lt : ((23, n, []) :: Sj 5 117 : sxT).length < (((23, n, []) :: Sj 5 117 : sxT) ++ [(3, 12, [some 7, none, some (119 + 1), some (119 + 2), some (119 + 3), some (119 + 4), some (119 + 5), some (119 + 6), none, none, none, none]), (20, 40, []), (21, 40, []), (20, 40, []), (20, 40, []), (20, 40, []), (20, 40, [])]).length := by rw [List.length_append]; exact Nat.lt_add_of_pos_right (by decide)
  have main : Rn 7 0 [some (vR ((23, n, []) :: Sj 5 117 : sxT).length), some (vR 7), some (vI 0)] [] (((23, n, []) :: Sj 5 117 : sxT) ++ [(3, 12, List.replicate 12 none)]) σ (fun r T' σ' => Rn 1 76 [some (vR 1)] (sx_push r [vR ((23, n, []) :: Sj 5 117 : sxT).length, vR 1]) T' σ' K) := by
    refine x7i (by omega) (by rw [len]; decide) (by rw [len]; decide) ?_
    rw [len] at lt ⊢
    simp only [s1_76, sx_push]
    refine ⟨⟨kd, lt⟩, ?_⟩
    rw [e]
    exact hK
  have rf : sx_rf (((23, n, []) :: Sj 5 117 : sxT) ++ [(3, 12, List.replicate 12 none)]) 1 2 = some 7 := rfl
  have kd2 : sx_kd (((23, n, []) :: Sj 5 117 : sxT) ++ [(3, 12, List.replicate 12 none)]) 1 = 8 := rfl
  simp only [s1_63, s1_64, s1_67, s1_68, s1_69, s1_72, s1_73, kd2, rf, Option.some.injEq, exists_eq_left', true_and]
  repeat' (first | intro _ | refine And.intro ?_ ?_)
  all_goals first | exact main | (rw [len]; decide) | (simp only [List.length_cons, List.length_nil]; omega)
theorem x1_79 (hK : Rn 1 95 [some (vR 1)] [] ((23, n, []) :: Sj 7 131) (sc σ 126 (up1 (up1 (σ 126) 10 (-1)) 1 (-1))) K) : Rn 1 79 [some (vR 1)] [] ((23, n, []) :: Sj 6 124) σ K := by
  have len : ((23, n, []) :: Sj 6 124 : sxT).length = 126 := by rw [List.length_cons, show (Sj 6 124).length = 125 by decide +kernel]
  have e : sx_setR (((23, n, []) :: Sj 6 124 : sxT) ++ [(3, 12, [some 7, none, some (126 + 1), some (126 + 2), some (126 + 3), some (126 + 4), some (126 + 5), some (126 + 6), none, none, none, none]), (20, 40, []), (21, 40, []), (20, 40, []), (20, 40, []), (20, 40, []), (20, 40, [])]) 1 6 126 = (23, n, []) :: Sj 7 131 := congrArg (List.cons (23, n, [])) (show sx_setR (Sj 6 124 ++ [(3, 12, [some 7, none, some (126 + 1), some (126 + 2), some (126 + 3), some (126 + 4), some (126 + 5), some (126 + 6), none, none, none, none]), (20, 40, []), (21, 40, []), (20, 40, []), (20, 40, []), (20, 40, []), (20, 40, [])]) 0 6 126 = Sj 7 131 by decide +kernel)
  have kd : sx_kd (((23, n, []) :: Sj 6 124 : sxT) ++ [(3, 12, [some 7, none, some (126 + 1), some (126 + 2), some (126 + 3), some (126 + 4), some (126 + 5), some (126 + 6), none, none, none, none]), (20, 40, []), (21, 40, []), (20, 40, []), (20, 40, []), (20, 40, []), (20, 40, [])]) 1 = 8 := by rw [kL (by rw [len]; decide)]; exact (show sx_kd (Sj 6 124) 0 = 8 by decide +kernel)
  have lt : ((23, n, []) :: Sj 6 124 : sxT).length < (((23, n, []) :: Sj 6 124 : sxT) ++ [(3, 12, [some 7, none, some (126 + 1), some (126 + 2), some (126 + 3), some (126 + 4), some (126 + 5), some (126 + 6), none, none, none, none]), (20, 40, []), (21, 40, []), (20, 40, []), (20, 40, []), (20, 40, []), (20, 40, [])]).length := by rw [List.length_append]; exact Nat.lt_add_of_pos_right (by decide)
  have main : Rn 7 0 [some (vR ((23, n, []) :: Sj 6 124 : sxT).length), some (vR 7), some (vI 1)] [] (((23, n, []) :: Sj 6 124 : sxT) ++ [(3, 12, List.replicate 12 none)]) σ (fun r T' σ' => Rn 1 92 [some (vR 1)] (sx_push r [vR ((23, n, []) :: Sj 6 124 : sxT).length, vR 1]) T' σ' K) := by
    refine x7i (by omega) (by rw [len]; decide) (by rw [len]; decide) ?_
    rw [len] at lt ⊢
    simp only [s1_92, sx_push]
    refine ⟨⟨kd, lt⟩, ?_⟩
    rw [e]
    exact hK
  have rf : sx_rf (((23, n, []) :: Sj 6 124 : sxT) ++ [(3, 12, List.replicate 12 none)]) 1 2 = some 7 := rfl
  have kd2 : sx_kd (((23, n, []) :: Sj 6 124 : sxT) ++ [(3, 12, List.replicate 12 none)]) 1 = 8 := rfl
  simp only [s1_79, s1_80, s1_83, s1_84, s1_85, s1_88, s1_89, kd2, rf, Option.some.injEq, exists_eq_left', true_and]
  repeat' (first | intro _ | refine And.intro ?_ ?_)
  all_goals first | exact main | (rw [len]; decide) | (simp only [List.length_cons, List.length_nil]; omega)
theorem x1_95 (hK : Rn 1 110 [some (vR 1)] [] ((23, n, []) :: Sj 8 139) σ K) : Rn 1 95 [some (vR 1)] [] ((23, n, []) :: Sj 7 131) σ K := by
  have len : ((23, n, []) :: Sj 7 131 : sxT).length = 133 := by rw [List.length_cons, show (Sj 7 131).length = 132 by decide +kernel]
  have e : sx_setR (((23, n, []) :: Sj 7 131 : sxT) ++ [(7, 9, [some 7, some (133 + 1), some (133 + 2), some (133 + 3), some (133 + 4), some (133 + 5), some (133 + 6), some (133 + 7), none]), (20, 40, []), (20, 40, []), (20, 40, []), (20, 40, []), (20, 40, []), (20, 40, []), (21, 40, [])]) 1 7 133 = (23, n, []) :: Sj 8 139 := congrArg (List.cons (23, n, [])) (show sx_setR (Sj 7 131 ++ [(7, 9, [some 7, some (133 + 1), some (133 + 2), some (133 + 3), some (133 + 4), some (133 + 5), some (133 + 6), some (133 + 7), none]), (20, 40, []), (20, 40, []), (20, 40, []), (20, 40, []), (20, 40, []), (20, 40, []), (21, 40, [])]) 0 7 133 = Sj 8 139 by decide +kernel)
  have kd : sx_kd (((23, n, []) :: Sj 7 131 : sxT) ++ [(7, 9, [some 7, some (133 + 1), some (133 + 2), some (133 + 3), some (133 + 4), some (133 + 5), some (133 + 6), some (133 + 7), none]), (20, 40, []), (20, 40, []), (20, 40, []), (20, 40, []), (20, 40, []), (20, 40, []), (21, 40, [])]) 1 = 8 := by rw [kL (by rw [len]; decide)]; exact (show sx_kd (Sj 7 131) 0 = 8 by decide +kernel)
  have lt : ((23, n, []) :: Sj 7 131 : sxT).length < (((23, n, []) :: Sj 7 131 : sxT) ++ [(7, 9, [some 7, some (133 + 1), some (133 + 2), some (133 + 3), some (133 + 4), some (133 + 5), some (133 + 6), some (133 + 7), none]), (20, 40, []), (20, 40, []), (20, 40, []), (20, 40, []), (20, 40, []), (20, 40, []), (21, 40, [])]).length := by rw [List.length_append]; exact Nat.lt_add_of_pos_right (by decide)
  have main : Rn 8 0 [some (vR ((23, n, []) :: Sj 7 131 : sxT).length), some (vR 7)] [] (((23, n, []) :: Sj 7 131 : sxT) ++ [(7, 9, List.replicate 9 none)]) σ (fun r T' σ' => Rn 1 107 [some (vR 1)] (sx_push r [vR ((23, n, []) :: Sj 7 131 : sxT).length, vR 1]) T' σ' K) := by
    refine x8i (by rw [len]; decide) (by rw [len]; decide) ?_
    rw [len] at lt ⊢
    simp only [s1_107, sx_push]
    refine ⟨⟨kd, lt⟩, ?_⟩
    rw [e]
    exact hK
  have rf : sx_rf (((23, n, []) :: Sj 7 131 : sxT) ++ [(7, 9, List.replicate 9 none)]) 1 2 = some 7 := rfl
  have kd2 : sx_kd (((23, n, []) :: Sj 7 131 : sxT) ++ [(7, 9, List.replicate 9 none)]) 1 = 8 := rfl
  simp only [s1_95, s1_96, s1_99, s1_100, s1_101, s1_104, kd2, rf, Option.some.injEq, exists_eq_left', true_and]
  repeat' (first | intro _ | refine And.intro ?_ ?_)
  all_goals first | exact main | (rw [len]; decide) | (simp only [List.length_cons, List.length_nil]; omega)
theorem x1_110 (hK : Rn 1 125 [some (vR 1)] [] ((23, n, []) :: Sj 9 144) σ K) : Rn 1 110 [some (vR 1)] [] ((23, n, []) :: Sj 8 139) σ K := by
  have len : ((23, n, []) :: Sj 8 139 : sxT).length = 141 := by rw [List.length_cons, show (Sj 8 139).length = 140 by decide +kernel]
  have e : sx_setR (((23, n, []) :: Sj 8 139 : sxT) ++ [(4, 6, [some 7, some (141 + 1), some (141 + 2), some (141 + 3), some (141 + 4), none]), (20, 12, []), (20, 12, []), (20, 12, []), (21, 3, [])]) 1 8 141 = (23, n, []) :: Sj 9 144 := congrArg (List.cons (23, n, [])) (show sx_setR (Sj 8 139 ++ [(4, 6, [some 7, some (141 + 1), some (141 + 2), some (141 + 3), some (141 + 4), none]), (20, 12, []), (20, 12, []), (20, 12, []), (21, 3, [])]) 0 8 141 = Sj 9 144 by decide +kernel)
  have kd : sx_kd (((23, n, []) :: Sj 8 139 : sxT) ++ [(4, 6, [some 7, some (141 + 1), some (141 + 2), some (141 + 3), some (141 + 4), none]), (20, 12, []), (20, 12, []), (20, 12, []), (21, 3, [])]) 1 = 8 := by rw [kL (by rw [len]; decide)]; exact (show sx_kd (Sj 8 139) 0 = 8 by decide +kernel)
  have lt : ((23, n, []) :: Sj 8 139 : sxT).length < (((23, n, []) :: Sj 8 139 : sxT) ++ [(4, 6, [some 7, some (141 + 1), some (141 + 2), some (141 + 3), some (141 + 4), none]), (20, 12, []), (20, 12, []), (20, 12, []), (21, 3, [])]).length := by rw [List.length_append]; exact Nat.lt_add_of_pos_right (by decide)
  have main : Rn 9 0 [some (vR ((23, n, []) :: Sj 8 139 : sxT).length), some (vR 7)] [] (((23, n, []) :: Sj 8 139 : sxT) ++ [(4, 6, List.replicate 6 none)]) σ (fun r T' σ' => Rn 1 122 [some (vR 1)] (sx_push r [vR ((23, n, []) :: Sj 8 139 : sxT).length, vR 1]) T' σ' K) := by
    refine x9i (by rw [len]; decide) (by rw [len]; decide) ?_
    rw [len] at lt ⊢
    simp only [s1_122, sx_push]
    refine ⟨⟨kd, lt⟩, ?_⟩
    rw [e]
    exact hK
  have rf : sx_rf (((23, n, []) :: Sj 8 139 : sxT) ++ [(4, 6, List.replicate 6 none)]) 1 2 = some 7 := rfl
  have kd2 : sx_kd (((23, n, []) :: Sj 8 139 : sxT) ++ [(4, 6, List.replicate 6 none)]) 1 = 8 := rfl
  simp only [s1_110, s1_111, s1_114, s1_115, s1_116, s1_119, kd2, rf, Option.some.injEq, exists_eq_left', true_and]
  repeat' (first | intro _ | refine And.intro ?_ ?_)
  all_goals first | exact main | (rw [len]; decide) | (simp only [List.length_cons, List.length_nil]; omega)
theorem x1_125 (hK : Rn 1 136 [some (vR 1)] [] ((23, n, []) :: Sj 10 146) σ K) : Rn 1 125 [some (vR 1)] [] ((23, n, []) :: Sj 9 144) σ K := by
  have len : ((23, n, []) :: Sj 9 144 : sxT).length = 146 := by rw [List.length_cons, show (Sj 9 144).length = 145 by decide +kernel]
  have e : sx_setR (((23, n, []) :: Sj 9 144 : sxT) ++ [(1, 2, [some (146 + 1), none]), (20, 243, [])]) 1 9 146 = (23, n, []) :: Sj 10 146 := congrArg (List.cons (23, n, [])) (show sx_setR (Sj 9 144 ++ [(1, 2, [some (146 + 1), none]), (20, 243, [])]) 0 9 146 = Sj 10 146 by decide +kernel)
  have kd : sx_kd (((23, n, []) :: Sj 9 144 : sxT) ++ [(1, 2, [some (146 + 1), none]), (20, 243, [])]) 1 = 8 := by rw [kL (by rw [len]; decide)]; exact (show sx_kd (Sj 9 144) 0 = 8 by decide +kernel)
  have lt : ((23, n, []) :: Sj 9 144 : sxT).length < (((23, n, []) :: Sj 9 144 : sxT) ++ [(1, 2, [some (146 + 1), none]), (20, 243, [])]).length := by rw [List.length_append]; exact Nat.lt_add_of_pos_right (by decide)
  have main : Rn 10 0 [some (vR ((23, n, []) :: Sj 9 144 : sxT).length)] [] (((23, n, []) :: Sj 9 144 : sxT) ++ [(1, 2, List.replicate 2 none)]) σ (fun r T' σ' => Rn 1 133 [some (vR 1)] (sx_push r [vR ((23, n, []) :: Sj 9 144 : sxT).length, vR 1]) T' σ' K) := by
    refine x10i (by rw [len]; decide) ?_
    rw [len] at lt ⊢
    simp only [s1_133, sx_push]
    refine ⟨⟨kd, lt⟩, ?_⟩
    rw [e]
    exact hK
  simp only [s1_125, s1_126, s1_129, s1_130]
  repeat' (first | intro _ | refine And.intro ?_ ?_)
  all_goals first | exact main | (rw [len]; decide) | (simp only [List.length_cons, List.length_nil]; omega)
end I3
