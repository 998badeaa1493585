/-! the constructors: the reference, field by field -/
def fiL : List Nat := [0, 1, 2, 3, 7, 9, 17, 20, 21, 22, 23, 31, 32, 33, 34, 35, 37, 38, 39, 40]
def flL (i : Nat) : List (Option Nat) := (List.range i).foldl (fun l j => l.set (fiL.getD j 0) (some (150 + j))) (List.replicate 42 none)
def Md (i : Nat) : sxT := Sj 11 147 ++ (9, 42, flL i) :: (T0r.drop 149).take i
def arL (i : Nat) : Nat × Nat × List (Option Nat) := T0r.getD (149 + i) (0, 0, [])
theorem Md_f : ∀ i : Fin 20, sx_kd (Md i) 148 = 9 ∧ (Md i).length = 149 + i ∧ sx_setR (Md i ++ [arL i]) 148 (fiL.getD i 0) (150 + i) = Md (i + 1) ∧ sx_kd (Md i ++ [arL i]) 148 = 9 := by decide +kernel
theorem Md_20 : sx_kd (Md 20) 148 = 9 ∧ Md 20 = T0r := by decide +kernel
section I6
variable {n : Nat} {σ : sxS} {K : Option sxV → sxT → sxS → Prop}
theorem y4 (hK : Rn 167 13 [some (vR 149)] [] ((23, n, []) :: Md 1) σ K) : Rn 167 4 [some (vR 149)] [] ((23, n, []) :: Md 0) σ K := by
  obtain ⟨f1, f2, f3, f4⟩ := Md_f ⟨0, by decide⟩
  have len : (((23, n, []) :: Md 0) : sxT).length = 150 := by rw [List.length_cons]; exact congrArg (· + 1) f2
  have lenb : ((((23, n, []) :: Md 0) : sxT) ++ [(20, 481, [])]).length = 151 := by rw [List.length_append, len]; rfl
  have e : sx_setR ((((23, n, []) :: Md 0) : sxT) ++ [(20, 481, [])]) 149 0 150 = ((23, n, []) :: Md 1) := congrArg (List.cons (23, n, [])) f3
  have kd : sx_kd ((((23, n, []) :: Md 0) : sxT) ++ [(20, 481, [])]) 149 = 9 := f4
  have tn : (481 : Int).toNat = 481 := rfl
  simp only [s167_4, s167_5, s167_8, s167_10, tn, len, e]
  repeat' (first | intro _ | refine And.intro ?_ ?_)
  all_goals first | exact hK | exact kd | omega | (rw [lenb]; decide)
theorem y13 (hK : Rn 167 22 [some (vR 149)] [] ((23, n, []) :: Md 2) σ K) : Rn 167 13 [some (vR 149)] [] ((23, n, []) :: Md 1) σ K := by
  obtain ⟨f1, f2, f3, f4⟩ := Md_f ⟨1, by decide⟩
  have len : (((23, n, []) :: Md 1) : sxT).length = 151 := by rw [List.length_cons]; exact congrArg (· + 1) f2
  have lenb : ((((23, n, []) :: Md 1) : sxT) ++ [(20, 9620, [])]).length = 152 := by rw [List.length_append, len]; rfl
  have e : sx_setR ((((23, n, []) :: Md 1) : sxT) ++ [(20, 9620, [])]) 149 1 151 = ((23, n, []) :: Md 2) := congrArg (List.cons (23, n, [])) f3
  have kd : sx_kd ((((23, n, []) :: Md 1) : sxT) ++ [(20, 9620, [])]) 149 = 9 := f4
  have tn : (9620 : Int).toNat = 9620 := rfl
  simp only [s167_13, s167_14, s167_17, s167_19, tn, len, e]
  repeat' (first | intro _ | refine And.intro ?_ ?_)
  all_goals first | exact hK | exact kd | omega | (rw [lenb]; decide)
theorem y22 (hK : Rn 167 31 [some (vR 149)] [] ((23, n, []) :: Md 3) σ K) : Rn 167 22 [some (vR 149)] [] ((23, n, []) :: Md 2) σ K := by
  obtain ⟨f1, f2, f3, f4⟩ := Md_f ⟨2, by decide⟩
  have len : (((23, n, []) :: Md 2) : sxT).length = 152 := by rw [List.length_cons]; exact congrArg (· + 1) f2
  have lenb : ((((23, n, []) :: Md 2) : sxT) ++ [(20, 481, [])]).length = 153 := by rw [List.length_append, len]; rfl
  have e : sx_setR ((((23, n, []) :: Md 2) : sxT) ++ [(20, 481, [])]) 149 2 152 = ((23, n, []) :: Md 3) := congrArg (List.cons (23, n, [])) f3
  have kd : sx_kd ((((23, n, []) :: Md 2) : sxT) ++ [(20, 481, [])]) 149 = 9 := f4
  have tn : (481 : Int).toNat = 481 := rfl
  simp only [s167_22, s167_23, s167_26, s167_28, tn, len, e]
  repeat' (first | intro _ | refine And.intro ?_ ?_)
  all_goals first | exact hK | exact kd | omega | (rw [lenb]; decide)
theorem y31 (hK : Rn 167 40 [some (vR 149)] [] ((23, n, []) :: Md 4) σ K) : Rn 167 31 [some (vR 149)] [] ((23, n, []) :: Md 3) σ K := by
  obtain ⟨f1, f2, f3, f4⟩ := Md_f ⟨3, by decide⟩
  have len : (((23, n, []) :: Md 3) : sxT).length = 153 := by rw [List.length_cons]; exact congrArg (· + 1) f2
  have lenb : ((((23, n, []) :: Md 3) : sxT) ++ [(20, 481, [])]).length = 154 := by rw [List.length_append, len]; rfl
  have e : sx_setR ((((23, n, []) :: Md 3) : sxT) ++ [(20, 481, [])]) 149 3 153 = ((23, n, []) :: Md 4) := congrArg (List.cons (23, n, [])) f3
  have kd : sx_kd ((((23, n, []) :: Md 3) : sxT) ++ [(20, 481, [])]) 149 = 9 := f4
  have tn : (481 : Int).toNat = 481 := rfl
  simp only [s167_31, s167_32, s167_35, s167_37, tn, len, e]
  repeat' (first | intro _ | refine And.intro ?_ ?_)
  all_goals first | exact hK | exact kd | omega | (rw [lenb]; decide)
theorem y40 (hK : Rn 167 45 [some (vR 149)] [] ((23, n, []) :: Md 4) (sx_up σ 149 4 (0)) K) : Rn 167 40 [some (vR 149)] [] ((23, n, []) :: Md 4) σ K := by
  have kd : sx_kd ((23, n, []) :: Md 4) 149 = 9 := show sx_kd (Md 4) 148 = 9 by decide +kernel
  simp only [s167_40, s167_41, s167_42]
  repeat' (first | intro _ | refine And.intro ?_ ?_)
  all_goals first | exact hK | exact kd | exact Or.inl trivial | (simp; done) | omega
theorem y45 (hK : Rn 167 50 [some (vR 149)] [] ((23, n, []) :: Md 4) (sx_up σ 149 5 (1)) K) : Rn 167 45 [some (vR 149)] [] ((23, n, []) :: Md 4) σ K := by
  have kd : sx_kd ((23, n, []) :: Md 4) 149 = 9 := show sx_kd (Md 4) 148 = 9 by decide +kernel
  simp only [s167_45, s167_46, s167_47]
  repeat' (first | intro _ | refine And.intro ?_ ?_)
  all_goals first | exact hK | exact kd | exact Or.inl trivial | (simp; done) | omega
theorem y50 (hK : Rn 167 55 [some (vR 149)] [] ((23, n, []) :: Md 4) (sx_up σ 149 6 (0)) K) : Rn 167 50 [some (vR 149)] [] ((23, n, []) :: Md 4) σ K := by
  have kd : sx_kd ((23, n, []) :: Md 4) 149 = 9 := show sx_kd (Md 4) 148 = 9 by decide +kernel
  simp only [s167_50, s167_51, s167_52]
  repeat' (first | intro _ | refine And.intro ?_ ?_)
  all_goals first | exact hK | exact kd | exact Or.inl trivial | (simp; done) | omega
theorem y55 (hK : Rn 167 64 [some (vR 149)] [] ((23, n, []) :: Md 5) σ K) : Rn 167 55 [some (vR 149)] [] ((23, n, []) :: Md 4) σ K := by
  obtain ⟨f1, f2, f3, f4⟩ := Md_f ⟨4, by decide⟩
  have len : (((23, n, []) :: Md 4) : sxT).length = 154 := by rw [List.length_cons]; exact congrArg (· + 1) f2
  have lenb : ((((23, n, []) :: Md 4) : sxT) ++ [(20, 1600, [])]).length = 155 := by rw [List.length_append, len]; rfl
  have e : sx_setR ((((23, n, []) :: Md 4) : sxT) ++ [(20, 1600, [])]) 149 7 154 = ((23, n, []) :: Md 5) := congrArg (List.cons (23, n, [])) f3
  have kd : sx_kd ((((23, n, []) :: Md 4) : sxT) ++ [(20, 1600, [])]) 149 = 9 := f4
  have tn : (1600 : Int).toNat = 1600 := rfl
  simp only [s167_55, s167_56, s167_59, s167_61, tn, len, e]
  repeat' (first | intro _ | refine And.intro ?_ ?_)
  all_goals first | exact hK | exact kd | omega | (rw [lenb]; decide)
theorem y64 (hK : Rn 167 69 [some (vR 149)] [] ((23, n, []) :: Md 5) (sx_up σ 149 8 (0)) K) : Rn 167 64 [some (vR 149)] [] ((23, n, []) :: Md 5) σ K := by
  have kd : sx_kd ((23, n, []) :: Md 5) 149 = 9 := show sx_kd (Md 5) 148 = 9 by decide +kernel
  simp only [s167_64, s167_65, s167_66]
  repeat' (first | intro _ | refine And.intro ?_ ?_)
  all_goals first | exact hK | exact kd | exact Or.inl trivial | (simp; done) | omega
theorem y69 (hK : Rn 167 77 [some (vR 149)] [] ((23, n, []) :: Md 6) σ K) : Rn 167 69 [some (vR 149)] [] ((23, n, []) :: Md 5) σ K := by
  obtain ⟨f1, f2, f3, f4⟩ := Md_f ⟨5, by decide⟩
  have len : (((23, n, []) :: Md 5) : sxT).length = 155 := by rw [List.length_cons]; exact congrArg (· + 1) f2
  have lenb : ((((23, n, []) :: Md 5) : sxT) ++ [(20, 6, [])]).length = 156 := by rw [List.length_append, len]; rfl
  have e : sx_setR ((((23, n, []) :: Md 5) : sxT) ++ [(20, 6, [])]) 149 9 155 = ((23, n, []) :: Md 6) := congrArg (List.cons (23, n, [])) f3
  have kd : sx_kd ((((23, n, []) :: Md 5) : sxT) ++ [(20, 6, [])]) 149 = 9 := f4
  have tn : (6 : Int).toNat = 6 := rfl
  simp only [s167_69, s167_70, s167_72, s167_74, tn, len, e]
  repeat' (first | intro _ | refine And.intro ?_ ?_)
  all_goals first | exact hK | exact kd | omega | (rw [lenb]; decide)
theorem y77 (hK : Rn 167 82 [some (vR 149)] [] ((23, n, []) :: Md 6) (sx_up σ 149 10 (0)) K) : Rn 167 77 [some (vR 149)] [] ((23, n, []) :: Md 6) σ K := by
  have kd : sx_kd ((23, n, []) :: Md 6) 149 = 9 := show sx_kd (Md 6) 148 = 9 by decide +kernel
  simp only [s167_77, s167_78, s167_79]
  repeat' (first | intro _ | refine And.intro ?_ ?_)
  all_goals first | exact hK | exact kd | exact Or.inl trivial | (simp; done) | omega
theorem y82 (hK : Rn 167 87 [some (vR 149)] [] ((23, n, []) :: Md 6) (sx_up σ 149 11 (-1)) K) : Rn 167 82 [some (vR 149)] [] ((23, n, []) :: Md 6) σ K := by
  have kd : sx_kd ((23, n, []) :: Md 6) 149 = 9 := show sx_kd (Md 6) 148 = 9 by decide +kernel
  simp only [s167_82, s167_83, s167_84]
  repeat' (first | intro _ | refine And.intro ?_ ?_)
  all_goals first | exact hK | exact kd | exact Or.inl trivial | (simp; done) | omega
theorem y87 (hK : Rn 167 92 [some (vR 149)] [] ((23, n, []) :: Md 6) (sx_up σ 149 12 (0)) K) : Rn 167 87 [some (vR 149)] [] ((23, n, []) :: Md 6) σ K := by
  have kd : sx_kd ((23, n, []) :: Md 6) 149 = 9 := show sx_kd (Md 6) 148 = 9 by decide +kernel
  simp only [s167_87, s167_88, s167_89]
  repeat' (first | intro _ | refine And.intro ?_ ?_)
  all_goals first | exact hK | exact kd | exact Or.inl trivial | (simp; done) | omega
theorem y92 (hK : Rn 167 97 [some (vR 149)] [] ((23, n, []) :: Md 6) (sx_up σ 149 13 (0)) K) : Rn 167 92 [some (vR 149)] [] ((23, n, []) :: Md 6) σ K := by
  have kd : sx_kd ((23, n, []) :: Md 6) 149 = 9 := show sx_kd (Md 6) 148 = 9 by decide +kernel
  simp only [s167_92, s167_93, s167_94]
  repeat' (first | intro _ | refine And.intro ?_ ?_)
  all_goals first | exact hK | exact kd | exact Or.inl trivial | (simp; done) | omega
theorem y97 (hK : Rn 167 102 [some (vR 149)] [] ((23, n, []) :: Md 6) (sx_up σ 149 14 (0)) K) : Rn 167 97 [some (vR 149)] [] ((23, n, []) :: Md 6) σ K := by
  have kd : sx_kd ((23, n, []) :: Md 6) 149 = 9 := show sx_kd (Md 6) 148 = 9 by decide +kernel
  simp only [s167_97, s167_98, s167_99]
  repeat' (first | intro _ | refine And.intro ?_ ?_)
  all_goals first | exact hK | exact kd | exact Or.inl trivial | (simp; done) | omega
theorem y102 (hK : Rn 167 107 [some (vR 149)] [] ((23, n, []) :: Md 6) (sx_up σ 149 15 (0)) K) : Rn 167 102 [some (vR 149)] [] ((23, n, []) :: Md 6) σ K := by
  have kd : sx_kd ((23, n, []) :: Md 6) 149 = 9 := show sx_kd (Md 6) 148 = 9 by decide +kernel
  simp only [s167_102, s167_103, s167_104]
  repeat' (first | intro _ | refine And.intro ?_ ?_)
  all_goals first | exact hK | exact kd | exact Or.inl trivial | (simp; done) | omega
theorem y107 (hK : Rn 167 112 [some (vR 149)] [] ((23, n, []) :: Md 6) (sx_up σ 149 16 (-1)) K) : Rn 167 107 [some (vR 149)] [] ((23, n, []) :: Md 6) σ K := by
  have kd : sx_kd ((23, n, []) :: Md 6) 149 = 9 := show sx_kd (Md 6) 148 = 9 by decide +kernel
  simp only [s167_107, s167_108, s167_109]
  repeat' (first | intro _ | refine And.intro ?_ ?_)
  all_goals first | exact hK | exact kd | exact Or.inl trivial | (simp; done) | omega
theorem y112 (hK : Rn 167 283 [some (vR 149)] [] ((23, n, []) :: Md 7) (sx_up (sx_up (sx_up (sx_up (sx_up (sx_up (sx_up (sx_up (sx_up (sx_up (sx_up (sx_up (sx_up (sx_up (sx_up (sx_up (sx_up (sx_up (sx_up (sx_up (sx_up (sx_up (sx_up (sx_up (sx_up (sx_up (sx_up (sx_up (sx_up (sx_up σ 156 0 19) 156 1 5) 156 2 20) 156 3 0) 156 4 2) 156 5 25) 156 6 0) 156 7 19) 156 8 21) 156 9 13) 156 10 0) 156 11 13) 156 12 15) 156 13 19) 156 14 20) 156 15 0) 156 16 2) 156 17 9) 156 18 20) 156 19 19) 156 20 0) 156 21 16) 156 22 15) 156 23 9) 156 24 14) 156 25 20) 156 26 0) 156 27 1) 156 28 20) 156 29 0) K) : Rn 167 112 [some (vR 149)] [] ((23, n, []) :: Md 6) σ K := by
  obtain ⟨f1, f2, f3, f4⟩ := Md_f ⟨6, by decide⟩
  have len : (((23, n, []) :: Md 6) : sxT).length = 156 := by rw [List.length_cons]; exact congrArg (· + 1) f2
  have lenb : ((((23, n, []) :: Md 6) : sxT) ++ [(20, 30, [])]).length = 157 := by rw [List.length_append, len]; rfl
  have e : sx_setR ((((23, n, []) :: Md 6) : sxT) ++ [(20, 30, [])]) 149 17 156 = ((23, n, []) :: Md 7) := congrArg (List.cons (23, n, [])) f3
  have kd : sx_kd ((((23, n, []) :: Md 6) : sxT) ++ [(20, 30, [])]) 149 = 9 := f4
  have k6 : sx_kd ((((23, n, []) :: Md 6) : sxT) ++ [(20, 30, [])]) 156 = 20 := show sx_kd (Md 6 ++ [(20, 30, [])]) 155 = 20 by decide +kernel
  have l6 : sx_ln ((((23, n, []) :: Md 6) : sxT) ++ [(20, 30, [])]) 156 = 30 := show sx_ln (Md 6 ++ [(20, 30, [])]) 155 = 30 by decide +kernel
  have tn : (30 : Int).toNat = 30 := rfl
  have main : Rn 167 280 [some (vR 149)] [vR 156, vR 149] ((((23, n, []) :: Md 6) : sxT) ++ [(20, 30, [])]) (sx_up (sx_up (sx_up (sx_up (sx_up (sx_up (sx_up (sx_up (sx_up (sx_up (sx_up (sx_up (sx_up (sx_up (sx_up (sx_up (sx_up (sx_up (sx_up (sx_up (sx_up (sx_up (sx_up (sx_up (sx_up (sx_up (sx_up (sx_up (sx_up (sx_up σ 156 0 19) 156 1 5) 156 2 20) 156 3 0) 156 4 2) 156 5 25) 156 6 0) 156 7 19) 156 8 21) 156 9 13) 156 10 0) 156 11 13) 156 12 15) 156 13 19) 156 14 20) 156 15 0) 156 16 2) 156 17 9) 156 18 20) 156 19 19) 156 20 0) 156 21 16) 156 22 15) 156 23 9) 156 24 14) 156 25 20) 156 26 0) 156 27 1) 156 28 20) 156 29 0) K := by
    simp only [s167_280, e]
    repeat' (first | intro _ | refine And.intro ?_ ?_)
    all_goals first | exact hK | exact kd | (rw [lenb]; decide)
  have mid : Rn 167 117 [some (vR 149)] [vR 156, vR 149] ((((23, n, []) :: Md 6) : sxT) ++ [(20, 30, [])]) σ K := by
    generalize ((((23, n, []) :: Md 6) : sxT) ++ [(20, 30, [])]) = TT at *
    simp only [s167_117, s167_118, s167_119, s167_121, s167_122, s167_123, s167_124, s167_125, s167_126, s167_127, s167_128, s167_130, s167_131, s167_132, s167_133, s167_134, s167_135, s167_136, s167_137, s167_138, s167_139, s167_140, s167_141, s167_143, s167_144, s167_145, s167_147, s167_148, s167_149, s167_150, s167_152, s167_154, s167_155, s167_156, s167_158, s167_160, s167_161, s167_162, s167_164, s167_166, s167_167, s167_168, s167_170, s167_171, s167_172, s167_173, s167_175, s167_177, s167_178, s167_179, s167_181, s167_183, s167_184, s167_185, s167_187, s167_189, s167_190, s167_191, s167_193, s167_195, s167_196, s167_197, s167_199, s167_200, s167_201, s167_202, s167_204, s167_205, s167_206, s167_207, s167_209, s167_211, s167_212, s167_213, s167_215, s167_217, s167_218, s167_219, s167_221, s167_223, s167_224, s167_225, s167_227, s167_228, s167_229, s167_230, s167_232, s167_234, s167_235, s167_236, s167_238, s167_240, s167_241, s167_242, s167_244, s167_246, s167_247, s167_248, s167_250, s167_252, s167_253, s167_254, s167_256, s167_258, s167_259, s167_260, s167_262, s167_263, s167_264, s167_265, s167_267, s167_268, s167_269, s167_270, s167_272, s167_274, s167_275, s167_276, s167_278, s167_279, k6, l6]
    repeat' (first | intro _ | refine And.intro ?_ ?_)
    all_goals first | exact main | rfl | exact k6 | decide | omega
  simp only [s167_112, s167_113, s167_115, tn, len]
  repeat' (first | intro _ | refine And.intro ?_ ?_)
  all_goals first | exact mid | omega
theorem y283 (hK : Rn 167 288 [some (vR 149)] [] ((23, n, []) :: Md 7) (sx_up σ 149 18 (0)) K) : Rn 167 283 [some (vR 149)] [] ((23, n, []) :: Md 7) σ K := by
  have kd : sx_kd ((23, n, []) :: Md 7) 149 = 9 := show sx_kd (Md 7) 148 = 9 by decide +kernel
  simp only [s167_283, s167_284, s167_285]
  repeat' (first | intro _ | refine And.intro ?_ ?_)
  all_goals first | exact hK | exact kd | exact Or.inl trivial | (simp; done) | omega
theorem y288 (hK : Rn 167 293 [some (vR 149)] [] ((23, n, []) :: Md 7) (sx_up σ 149 19 (0)) K) : Rn 167 288 [some (vR 149)] [] ((23, n, []) :: Md 7) σ K := by
  have kd : sx_kd ((23, n, []) :: Md 7) 149 = 9 := show sx_kd (Md 7) 148 = 9 by decide +kernel
  simp only [s167_288, s167_289, s167_290]
  repeat' (first | intro _ | refine And.intro ?_ ?_)
  all_goals first | exact hK | exact kd | exact Or.inl trivial | (simp; done) | omega
theorem y293 (hK : Rn 167 301 [some (vR 149)] [] ((23, n, []) :: Md 8) σ K) : Rn 167 293 [some (vR 149)] [] ((23, n, []) :: Md 7) σ K := by
  obtain ⟨f1, f2, f3, f4⟩ := Md_f ⟨7, by decide⟩
  have len : (((23, n, []) :: Md 7) : sxT).length = 157 := by rw [List.length_cons]; exact congrArg (· + 1) f2
  have lenb : ((((23, n, []) :: Md 7) : sxT) ++ [(20, 120, [])]).length = 158 := by rw [List.length_append, len]; rfl
  have e : sx_setR ((((23, n, []) :: Md 7) : sxT) ++ [(20, 120, [])]) 149 20 157 = ((23, n, []) :: Md 8) := congrArg (List.cons (23, n, [])) f3
  have kd : sx_kd ((((23, n, []) :: Md 7) : sxT) ++ [(20, 120, [])]) 149 = 9 := f4
  have tn : (120 : Int).toNat = 120 := rfl
  simp only [s167_293, s167_294, s167_296, s167_298, tn, len, e]
  repeat' (first | intro _ | refine And.intro ?_ ?_)
  all_goals first | exact hK | exact kd | omega | (rw [lenb]; decide)
theorem y301 (hK : Rn 167 310 [some (vR 149)] [] ((23, n, []) :: Md 9) σ K) : Rn 167 301 [some (vR 149)] [] ((23, n, []) :: Md 8) σ K := by
  obtain ⟨f1, f2, f3, f4⟩ := Md_f ⟨8, by decide⟩
  have len : (((23, n, []) :: Md 8) : sxT).length = 158 := by rw [List.length_cons]; exact congrArg (· + 1) f2
  have lenb : ((((23, n, []) :: Md 8) : sxT) ++ [(20, 240, [])]).length = 159 := by rw [List.length_append, len]; rfl
  have e : sx_setR ((((23, n, []) :: Md 8) : sxT) ++ [(20, 240, [])]) 149 21 158 = ((23, n, []) :: Md 9) := congrArg (List.cons (23, n, [])) f3
  have kd : sx_kd ((((23, n, []) :: Md 8) : sxT) ++ [(20, 240, [])]) 149 = 9 := f4
  have tn : (240 : Int).toNat = 240 := rfl
  simp only [s167_301, s167_302, s167_305, s167_307, tn, len, e]
  repeat' (first | intro _ | refine And.intro ?_ ?_)
  all_goals first | exact hK | exact kd | omega | (rw [lenb]; decide)
theorem y310 (hK : Rn 167 318 [some (vR 149)] [] ((23, n, []) :: Md 10) σ K) : Rn 167 310 [some (vR 149)] [] ((23, n, []) :: Md 9) σ K := by
  obtain ⟨f1, f2, f3, f4⟩ := Md_f ⟨9, by decide⟩
  have len : (((23, n, []) :: Md 9) : sxT).length = 159 := by rw [List.length_cons]; exact congrArg (· + 1) f2
  have lenb : ((((23, n, []) :: Md 9) : sxT) ++ [(20, 40, [])]).length = 160 := by rw [List.length_append, len]; rfl
  have e : sx_setR ((((23, n, []) :: Md 9) : sxT) ++ [(20, 40, [])]) 149 22 159 = ((23, n, []) :: Md 10) := congrArg (List.cons (23, n, [])) f3
  have kd : sx_kd ((((23, n, []) :: Md 9) : sxT) ++ [(20, 40, [])]) 149 = 9 := f4
  have tn : (40 : Int).toNat = 40 := rfl
  simp only [s167_310, s167_311, s167_313, s167_315, tn, len, e]
  repeat' (first | intro _ | refine And.intro ?_ ?_)
  all_goals first | exact hK | exact kd | omega | (rw [lenb]; decide)
theorem y318 (hK : Rn 167 326 [some (vR 149)] [] ((23, n, []) :: Md 11) σ K) : Rn 167 318 [some (vR 149)] [] ((23, n, []) :: Md 10) σ K := by
  obtain ⟨f1, f2, f3, f4⟩ := Md_f ⟨10, by decide⟩
  have len : (((23, n, []) :: Md 10) : sxT).length = 160 := by rw [List.length_cons]; exact congrArg (· + 1) f2
  have lenb : ((((23, n, []) :: Md 10) : sxT) ++ [(20, 40, [])]).length = 161 := by rw [List.length_append, len]; rfl
  have e : sx_setR ((((23, n, []) :: Md 10) : sxT) ++ [(20, 40, [])]) 149 23 160 = ((23, n, []) :: Md 11) := congrArg (List.cons (23, n, [])) f3
  have kd : sx_kd ((((23, n, []) :: Md 10) : sxT) ++ [(20, 40, [])]) 149 = 9 := f4
  have tn : (40 : Int).toNat = 40 := rfl
  simp only [s167_318, s167_319, s167_321, s167_323, tn, len, e]
  repeat' (first | intro _ | refine And.intro ?_ ?_)
  all_goals first | exact hK | exact kd | omega | (rw [lenb]; decide)
theorem y326 (hK : Rn 167 331 [some (vR 149)] [] ((23, n, []) :: Md 11) (sx_up σ 149 24 (-1)) K) : Rn 167 326 [some (vR 149)] [] ((23, n, []) :: Md 11) σ K := by
  have kd : sx_kd ((23, n, []) :: Md 11) 149 = 9 := show sx_kd (Md 11) 148 = 9 by decide +kernel
  simp only [s167_326, s167_327, s167_328]
  repeat' (first | intro _ | refine And.intro ?_ ?_)
  all_goals first | exact hK | exact kd | exact Or.inl trivial | (simp; done) | omega
theorem y331 (hK : Rn 167 336 [some (vR 149)] [] ((23, n, []) :: Md 11) (sx_up σ 149 25 (0)) K) : Rn 167 331 [some (vR 149)] [] ((23, n, []) :: Md 11) σ K := by
  have kd : sx_kd ((23, n, []) :: Md 11) 149 = 9 := show sx_kd (Md 11) 148 = 9 by decide +kernel
  simp only [s167_331, s167_332, s167_333]
  repeat' (first | intro _ | refine And.intro ?_ ?_)
  all_goals first | exact hK | exact kd | exact Or.inl trivial | (simp; done) | omega
theorem y336 (hK : Rn 167 341 [some (vR 149)] [] ((23, n, []) :: Md 11) (sx_up σ 149 26 (0)) K) : Rn 167 336 [some (vR 149)] [] ((23, n, []) :: Md 11) σ K := by
  have kd : sx_kd ((23, n, []) :: Md 11) 149 = 9 := show sx_kd (Md 11) 148 = 9 by decide +kernel
  simp only [s167_336, s167_337, s167_338]
  repeat' (first | intro _ | refine And.intro ?_ ?_)
  all_goals first | exact hK | exact kd | exact Or.inl trivial | (simp; done) | omega
theorem y341 (hK : Rn 167 346 [some (vR 149)] [] ((23, n, []) :: Md 11) (sx_up σ 149 27 (0)) K) : Rn 167 341 [some (vR 149)] [] ((23, n, []) :: Md 11) σ K := by
  have kd : sx_kd ((23, n, []) :: Md 11) 149 = 9 := show sx_kd (Md 11) 148 = 9 by decide +kernel
  simp only [s167_341, s167_342, s167_343]
  repeat' (first | intro _ | refine And.intro ?_ ?_)
  all_goals first | exact hK | exact kd | exact Or.inl trivial | (simp; done) | omega
theorem y346 (hK : Rn 167 351 [some (vR 149)] [] ((23, n, []) :: Md 11) (sx_up σ 149 28 (0)) K) : Rn 167 346 [some (vR 149)] [] ((23, n, []) :: Md 11) σ K := by
  have kd : sx_kd ((23, n, []) :: Md 11) 149 = 9 := show sx_kd (Md 11) 148 = 9 by decide +kernel
  simp only [s167_346, s167_347, s167_348]
  repeat' (first | intro _ | refine And.intro ?_ ?_)
  all_goals first | exact hK | exact kd | exact Or.inl trivial | (simp; done) | omega
theorem y351 (hK : Rn 167 356 [some (vR 149)] [] ((23, n, []) :: Md 11) (sx_up σ 149 29 (0)) K) : Rn 167 351 [some (vR 149)] [] ((23, n, []) :: Md 11) σ K := by
  have kd : sx_kd ((23, n, []) :: Md 11) 149 = 9 := show sx_kd (Md 11) 148 = 9 by decide +kernel
  simp only [s167_351, s167_352, s167_353]
  repeat' (first | intro _ | refine And.intro ?_ ?_)
  all_goals first | exact hK | exact kd | exact Or.inl trivial | (simp; done) | omega
theorem y356 (hK : Rn 167 361 [some (vR 149)] [] ((23, n, []) :: Md 11) (sx_up σ 149 30 (0)) K) : Rn 167 356 [some (vR 149)] [] ((23, n, []) :: Md 11) σ K := by
  have kd : sx_kd ((23, n, []) :: Md 11) 149 = 9 := show sx_kd (Md 11) 148 = 9 by decide +kernel
  simp only [s167_356, s167_357, s167_358]
  repeat' (first | intro _ | refine And.intro ?_ ?_)
  all_goals first | exact hK | exact kd | exact Or.inl trivial | (simp; done) | omega
theorem y361 (hK : Rn 167 370 [some (vR 149)] [] ((23, n, []) :: Md 12) σ K) : Rn 167 361 [some (vR 149)] [] ((23, n, []) :: Md 11) σ K := by
  obtain ⟨f1, f2, f3, f4⟩ := Md_f ⟨11, by decide⟩
  have len : (((23, n, []) :: Md 11) : sxT).length = 161 := by rw [List.length_cons]; exact congrArg (· + 1) f2
  have lenb : ((((23, n, []) :: Md 11) : sxT) ++ [(20, 160, [])]).length = 162 := by rw [List.length_append, len]; rfl
  have e : sx_setR ((((23, n, []) :: Md 11) : sxT) ++ [(20, 160, [])]) 149 31 161 = ((23, n, []) :: Md 12) := congrArg (List.cons (23, n, [])) f3
  have kd : sx_kd ((((23, n, []) :: Md 11) : sxT) ++ [(20, 160, [])]) 149 = 9 := f4
  have tn : (160 : Int).toNat = 160 := rfl
  simp only [s167_361, s167_362, s167_365, s167_367, tn, len, e]
  repeat' (first | intro _ | refine And.intro ?_ ?_)
  all_goals first | exact hK | exact kd | omega | (rw [lenb]; decide)
theorem y370 (hK : Rn 167 378 [some (vR 149)] [] ((23, n, []) :: Md 13) σ K) : Rn 167 370 [some (vR 149)] [] ((23, n, []) :: Md 12) σ K := by
  obtain ⟨f1, f2, f3, f4⟩ := Md_f ⟨12, by decide⟩
  have len : (((23, n, []) :: Md 12) : sxT).length = 162 := by rw [List.length_cons]; exact congrArg (· + 1) f2
  have lenb : ((((23, n, []) :: Md 12) : sxT) ++ [(20, 40, [])]).length = 163 := by rw [List.length_append, len]; rfl
  have e : sx_setR ((((23, n, []) :: Md 12) : sxT) ++ [(20, 40, [])]) 149 32 162 = ((23, n, []) :: Md 13) := congrArg (List.cons (23, n, [])) f3
  have kd : sx_kd ((((23, n, []) :: Md 12) : sxT) ++ [(20, 40, [])]) 149 = 9 := f4
  have tn : (40 : Int).toNat = 40 := rfl
  simp only [s167_370, s167_371, s167_373, s167_375, tn, len, e]
  repeat' (first | intro _ | refine And.intro ?_ ?_)
  all_goals first | exact hK | exact kd | omega | (rw [lenb]; decide)
theorem y378 (hK : Rn 167 386 [some (vR 149)] [] ((23, n, []) :: Md 14) σ K) : Rn 167 378 [some (vR 149)] [] ((23, n, []) :: Md 13) σ K := by
  obtain ⟨f1, f2, f3, f4⟩ := Md_f ⟨13, by decide⟩
  have len : (((23, n, []) :: Md 13) : sxT).length = 163 := by rw [List.length_cons]; exact congrArg (· + 1) f2
  have lenb : ((((23, n, []) :: Md 13) : sxT) ++ [(20, 40, [])]).length = 164 := by rw [List.length_append, len]; rfl
  have e : sx_setR ((((23, n, []) :: Md 13) : sxT) ++ [(20, 40, [])]) 149 33 163 = ((23, n, []) :: Md 14) := congrArg (List.cons (23, n, [])) f3
  have kd : sx_kd ((((23, n, []) :: Md 13) : sxT) ++ [(20, 40, [])]) 149 = 9 := f4
  have tn : (40 : Int).toNat = 40 := rfl
  simp only [s167_378, s167_379, s167_381, s167_383, tn, len, e]
  repeat' (first | intro _ | refine And.intro ?_ ?_)
  all_goals first | exact hK | exact kd | omega | (rw [lenb]; decide)
theorem y386 (hK : Rn 167 394 [some (vR 149)] [] ((23, n, []) :: Md 15) σ K) : Rn 167 386 [some (vR 149)] [] ((23, n, []) :: Md 14) σ K := by
  obtain ⟨f1, f2, f3, f4⟩ := Md_f ⟨14, by decide⟩
  have len : (((23, n, []) :: Md 14) : sxT).length = 164 := by rw [List.length_cons]; exact congrArg (· + 1) f2
  have lenb : ((((23, n, []) :: Md 14) : sxT) ++ [(20, 40, [])]).length = 165 := by rw [List.length_append, len]; rfl
  have e : sx_setR ((((23, n, []) :: Md 14) : sxT) ++ [(20, 40, [])]) 149 34 164 = ((23, n, []) :: Md 15) := congrArg (List.cons (23, n, [])) f3
  have kd : sx_kd ((((23, n, []) :: Md 14) : sxT) ++ [(20, 40, [])]) 149 = 9 := f4
  have tn : (40 : Int).toNat = 40 := rfl
  simp only [s167_386, s167_387, s167_389, s167_391, tn, len, e]
  repeat' (first | intro _ | refine And.intro ?_ ?_)
  all_goals first | exact hK | exact kd | omega | (rw [lenb]; decide)
theorem y394 (hK : Rn 167 402 [some (vR 149)] [] ((23, n, []) :: Md 16) σ K) : Rn 167 394 [some (vR 149)] [] ((23, n, []) :: Md 15) σ K := by
  obtain ⟨f1, f2, f3, f4⟩ := Md_f ⟨15, by decide⟩
  have len : (((23, n, []) :: Md 15) : sxT).length = 165 := by rw [List.length_cons]; exact congrArg (· + 1) f2
  have lenb : ((((23, n, []) :: Md 15) : sxT) ++ [(20, 120, [])]).length = 166 := by rw [List.length_append, len]; rfl
  have e : sx_setR ((((23, n, []) :: Md 15) : sxT) ++ [(20, 120, [])]) 149 35 165 = ((23, n, []) :: Md 16) := congrArg (List.cons (23, n, [])) f3
  have kd : sx_kd ((((23, n, []) :: Md 15) : sxT) ++ [(20, 120, [])]) 149 = 9 := f4
  have tn : (120 : Int).toNat = 120 := rfl
  simp only [s167_394, s167_395, s167_397, s167_399, tn, len, e]
  repeat' (first | intro _ | refine And.intro ?_ ?_)
  all_goals first | exact hK | exact kd | omega | (rw [lenb]; decide)
theorem y402 (hK : Rn 167 407 [some (vR 149)] [] ((23, n, []) :: Md 16) (sx_up σ 149 36 (0)) K) : Rn 167 402 [some (vR 149)] [] ((23, n, []) :: Md 16) σ K := by
  have kd : sx_kd ((23, n, []) :: Md 16) 149 = 9 := show sx_kd (Md 16) 148 = 9 by decide +kernel
  simp only [s167_402, s167_403, s167_404]
  repeat' (first | intro _ | refine And.intro ?_ ?_)
  all_goals first | exact hK | exact kd | exact Or.inl trivial | (simp; done) | omega
theorem y407 (hK : Rn 167 415 [some (vR 149)] [] ((23, n, []) :: Md 17) σ K) : Rn 167 407 [some (vR 149)] [] ((23, n, []) :: Md 16) σ K := by
  obtain ⟨f1, f2, f3, f4⟩ := Md_f ⟨16, by decide⟩
  have len : (((23, n, []) :: Md 16) : sxT).length = 166 := by rw [List.length_cons]; exact congrArg (· + 1) f2
  have lenb : ((((23, n, []) :: Md 16) : sxT) ++ [(20, 12, [])]).length = 167 := by rw [List.length_append, len]; rfl
  have e : sx_setR ((((23, n, []) :: Md 16) : sxT) ++ [(20, 12, [])]) 149 37 166 = ((23, n, []) :: Md 17) := congrArg (List.cons (23, n, [])) f3
  have kd : sx_kd ((((23, n, []) :: Md 16) : sxT) ++ [(20, 12, [])]) 149 = 9 := f4
  have tn : (12 : Int).toNat = 12 := rfl
  simp only [s167_407, s167_408, s167_410, s167_412, tn, len, e]
  repeat' (first | intro _ | refine And.intro ?_ ?_)
  all_goals first | exact hK | exact kd | omega | (rw [lenb]; decide)
theorem y415 (hK : Rn 167 423 [some (vR 149)] [] ((23, n, []) :: Md 18) σ K) : Rn 167 415 [some (vR 149)] [] ((23, n, []) :: Md 17) σ K := by
  obtain ⟨f1, f2, f3, f4⟩ := Md_f ⟨17, by decide⟩
  have len : (((23, n, []) :: Md 17) : sxT).length = 167 := by rw [List.length_cons]; exact congrArg (· + 1) f2
  have lenb : ((((23, n, []) :: Md 17) : sxT) ++ [(20, 12, [])]).length = 168 := by rw [List.length_append, len]; rfl
  have e : sx_setR ((((23, n, []) :: Md 17) : sxT) ++ [(20, 12, [])]) 149 38 167 = ((23, n, []) :: Md 18) := congrArg (List.cons (23, n, [])) f3
  have kd : sx_kd ((((23, n, []) :: Md 17) : sxT) ++ [(20, 12, [])]) 149 = 9 := f4
  have tn : (12 : Int).toNat = 12 := rfl
  simp only [s167_415, s167_416, s167_418, s167_420, tn, len, e]
  repeat' (first | intro _ | refine And.intro ?_ ?_)
  all_goals first | exact hK | exact kd | omega | (rw [lenb]; decide)
theorem y423 (hK : Rn 167 431 [some (vR 149)] [] ((23, n, []) :: Md 19) σ K) : Rn 167 423 [some (vR 149)] [] ((23, n, []) :: Md 18) σ K := by
  obtain ⟨f1, f2, f3, f4⟩ := Md_f ⟨18, by decide⟩
  have len : (((23, n, []) :: Md 18) : sxT).length = 168 := by rw [List.length_cons]; exact congrArg (· + 1) f2
  have lenb : ((((23, n, []) :: Md 18) : sxT) ++ [(20, 12, [])]).length = 169 := by rw [List.length_append, len]; rfl
  have e : sx_setR ((((23, n, []) :: Md 18) : sxT) ++ [(20, 12, [])]) 149 39 168 = ((23, n, []) :: Md 19) := congrArg (List.cons (23, n, [])) f3
  have kd : sx_kd ((((23, n, []) :: Md 18) : sxT) ++ [(20, 12, [])]) 149 = 9 := f4
  have tn : (12 : Int).toNat = 12 := rfl
  simp only [s167_423, s167_424, s167_426, s167_428, tn, len, e]
  repeat' (first | intro _ | refine And.intro ?_ ?_)
  all_goals first | exact hK | exact kd | omega | (rw [lenb]; decide)
theorem y431 (hK : Rn 167 440 [some (vR 149)] [] ((23, n, []) :: Md 20) σ K) : Rn 167 431 [some (vR 149)] [] ((23, n, []) :: Md 19) σ K := by
  obtain ⟨f1, f2, f3, f4⟩ := Md_f ⟨19, by decide⟩
  have len : (((23, n, []) :: Md 19) : sxT).length = 169 := by rw [List.length_cons]; exact congrArg (· + 1) f2
  have lenb : ((((23, n, []) :: Md 19) : sxT) ++ [(20, 243, [])]).length = 170 := by rw [List.length_append, len]; rfl
  have e : sx_setR ((((23, n, []) :: Md 19) : sxT) ++ [(20, 243, [])]) 149 40 169 = ((23, n, []) :: Md 20) := congrArg (List.cons (23, n, [])) f3
  have kd : sx_kd ((((23, n, []) :: Md 19) : sxT) ++ [(20, 243, [])]) 149 = 9 := f4
  have tn : (243 : Int).toNat = 243 := rfl
  simp only [s167_431, s167_432, s167_435, s167_437, tn, len, e]
  repeat' (first | intro _ | refine And.intro ?_ ?_)
  all_goals first | exact hK | exact kd | omega | (rw [lenb]; decide)
theorem y440 (hK : Rn 167 445 [some (vR 149)] [] ((23, n, []) :: Md 20) (sx_up σ 149 41 (0)) K) : Rn 167 440 [some (vR 149)] [] ((23, n, []) :: Md 20) σ K := by
  have kd : sx_kd ((23, n, []) :: Md 20) 149 = 9 := show sx_kd (Md 20) 148 = 9 by decide +kernel
  simp only [s167_440, s167_441, s167_442]
  repeat' (first | intro _ | refine And.intro ?_ ?_)
  all_goals first | exact hK | exact kd | exact Or.inl trivial | (simp; done) | omega
def mdI (σ σ' : sxS) : Prop := (∀ k, k ≠ 149 → k ≠ 156 → σ' k = σ k) ∧ (σ' 149 4 = 0 ∧ σ' 149 5 = 1 ∧ σ' 149 6 = 0 ∧ σ' 149 8 = 0 ∧ σ' 149 10 = 0 ∧ σ' 149 11 = -1 ∧ σ' 149 26 = 0 ∧ σ' 149 30 = 0 ∧ σ' 149 36 = 0 ∧ σ' 149 41 = 0) ∧ ∀ k : Fin 30, σ' 156 (k : Nat) = ownW.getD k 0
theorem x167i (hK : ∀ σ', mdI σ σ' → K none (T0 n) σ') : Rn 167 0 [some (vR 149)] [] ((23, n, []) :: Md 0) σ K := by
  have fin : ∀ σ', mdI σ σ' → Rn 167 445 [some (vR 149)] [] ((23, n, []) :: Md 20) σ' K := fun σ' h => by
    rw [s167_445, Md_20.2]; exact hK σ' h
  simp only [s167_0, s167_1]
  refine ⟨by simp only [List.length_nil]; omega, y4 (y13 (y22 (y31 (y40 (y45 (y50 (y55 (y64 (y69 (y77 (y82 (y87 (y92 (y97 (y102 (y107 (y112 (y283 (y288 (y293 (y301 (y310 (y318 (y326 (y331 (y336 (y341 (y346 (y351 (y356 (y361 (y370 (y378 (y386 (y394 (y402 (y407 (y415 (y423 (y431 (y440 (fin _ ?_))))))))))))))))))))))))))))))))))))))))))⟩
  refine ⟨fun k k1 k2 => ?_, ?_, fun k => ?_⟩
  · funext j
    simp only [sx_up, k1, k2, false_and, if_false]
  · simp [sx_up]
  · rcases k with ⟨k, hk⟩
    rcases (show k = 0 ∨ k = 1 ∨ k = 2 ∨ k = 3 ∨ k = 4 ∨ k = 5 ∨ k = 6 ∨ k = 7 ∨ k = 8 ∨ k = 9 ∨ k = 10 ∨ k = 11 ∨ k = 12 ∨ k = 13 ∨ k = 14 ∨ k = 15 ∨ k = 16 ∨ k = 17 ∨ k = 18 ∨ k = 19 ∨ k = 20 ∨ k = 21 ∨ k = 22 ∨ k = 23 ∨ k = 24 ∨ k = 25 ∨ k = 26 ∨ k = 27 ∨ k = 28 ∨ k = 29 by omega) with rfl | rfl | rfl | rfl | rfl | rfl | rfl | rfl | rfl | rfl | rfl | rfl | rfl | rfl | rfl | rfl | rfl | rfl | rfl | rfl | rfl | rfl | rfl | rfl | rfl | rfl | rfl | rfl | rfl | rfl <;> simp [sx_up, ownW]
end I6
