/-! the constructors: the class whole -/
section I4
variable {n : Nat} {σ : sxS} {K : Option sxV → sxT → sxS → Prop}
theorem x1_52 (hK : ∀ σ', (∀ k, (k < 19 ∨ 118 < k) → σ' k = σ k) → Rn 1 63 [some (vR 1)] [] ((23, n, []) :: Sj 5 117) σ' K) : Rn 1 52 [some (vR 1)] [] ((23, n, []) :: Sj 4 15) σ K := by
  have len : ((23, n, []) :: Sj 4 15 : sxT).length = 17 := by rw [List.length_cons, show (Sj 4 15).length = 16 by decide +kernel]
  have lenb : (((23, n, []) :: Sj 4 15 : sxT) ++ [(0, 3, List.replicate 3 none)]).length = 18 := by rw [List.length_append, len]; rfl
  have lenc : ((((23, n, []) :: Sj 4 15 : sxT) ++ [(0, 3, List.replicate 3 none)]) ++ [(22, 20, List.replicate 20 none)]).length = 19 := by rw [List.length_append, lenb]; rfl
  have e0 : sx_setR ((((23, n, []) :: Sj 4 15 : sxT) ++ [(0, 3, List.replicate 3 none)]) ++ [(22, 20, List.replicate 20 none)]) 17 0 18 = (23, n, []) :: Hs 0 := congrArg (List.cons (23, n, [])) (show sx_setR ((Sj 4 15 ++ [(0, 3, List.replicate 3 none)]) ++ [(22, 20, List.replicate 20 none)]) 16 0 18 = Hs 0 by decide +kernel)
  have e1 : sx_setR ((23, n, []) :: Hs 20) 1 4 17 = (23, n, []) :: Sj 5 117 := congrArg (List.cons (23, n, [])) (show sx_setR (Hs 20) 0 4 17 = Sj 5 117 by decide +kernel)
  have kd0 : sx_kd ((((23, n, []) :: Sj 4 15 : sxT) ++ [(0, 3, List.replicate 3 none)]) ++ [(22, 20, List.replicate 20 none)]) 17 = 0 := show sx_kd ((Sj 4 15 ++ [(0, 3, List.replicate 3 none)]) ++ [(22, 20, List.replicate 20 none)]) 16 = 0 by decide +kernel
  have kd1 : sx_kd ((23, n, []) :: Hs 20) 1 = 8 := show sx_kd (Hs 20) 0 = 8 by decide +kernel
  have lt1 : 17 < ((23, n, []) :: Hs 20 : sxT).length := by rw [List.length_cons, show (Hs 20).length = 118 by decide +kernel]; decide
  have main : Rn 6 0 [some (vR 17), none] [] (((23, n, []) :: Sj 4 15 : sxT) ++ [(0, 3, List.replicate 3 none)]) σ (fun r T' σ' => Rn 1 60 [some (vR 1)] (sx_push r [vR 17, vR 1]) T' σ' K) := by
    have go := x6l (n := n) (K := fun r T' σ' => Rn 1 60 [some (vR 1)] (sx_push r [vR 17, vR 1]) T' σ' K) 20 0 σ (by omega) (fun σ' h' => by
      simp only [s1_60, sx_push]
      refine ⟨⟨kd1, lt1⟩, ?_⟩
      rw [e1]
      exact hK σ' h')
    have n20 : (20 : Int).toNat = 20 := rfl
    simp only [s6_0, s6_1, s6_4, s6_5, s6_7, s6_10, s6_13, s6_14, n20, lenb]
    repeat' (first | intro _ | refine And.intro ?_ ?_)
    all_goals first | omega | exact kd0 | (rw [lenc]; decide) | (simp only [List.length_nil]; omega) | (rw [e0]; exact go) | skip
  simp only [s1_52, s1_53, s1_56, s1_57, len]
  repeat' (first | intro _ | refine And.intro ?_ ?_)
  all_goals first | exact main | omega | (simp only [List.length_cons, List.length_nil]; omega)
theorem x1_136 (hK : K none ((23, n, []) :: Sj 11 147) (sc σ 1 (up1 (σ 1) 11 1))) : Rn 1 136 [some (vR 1)] [] ((23, n, []) :: Sj 10 146) σ K := by
  have len : ((23, n, []) :: Sj 10 146 : sxT).length = 148 := by rw [List.length_cons, show (Sj 10 146).length = 147 by decide +kernel]
  have lenb : (((23, n, []) :: Sj 10 146 : sxT) ++ [(20, 6, [])]).length = 149 := by rw [List.length_append, len]; rfl
  have e : sx_setR (((23, n, []) :: Sj 10 146 : sxT) ++ [(20, 6, [])]) 1 10 148 = (23, n, []) :: Sj 11 147 := congrArg (List.cons (23, n, [])) (show sx_setR (Sj 10 146 ++ [(20, 6, [])]) 0 10 148 = Sj 11 147 by decide +kernel)
  have kd : sx_kd (((23, n, []) :: Sj 10 146 : sxT) ++ [(20, 6, [])]) 1 = 8 := show sx_kd (Sj 10 146 ++ [(20, 6, [])]) 0 = 8 by decide +kernel
  have kd2 : sx_kd ((23, n, []) :: Sj 11 147) 1 = 8 := show sx_kd (Sj 11 147) 0 = 8 by decide +kernel
  have n6 : (6 : Int).toNat = 6 := rfl
  simp only [s1_136, s1_137, s1_139, s1_141, s1_144, s1_145, s1_146, s1_149, n6, len, e, up_sc]
  repeat' (first | intro _ | refine And.intro ?_ ?_)
  all_goals first | exact hK | exact kd | exact kd2 | omega | (rw [lenb]; decide)
def clI (σ σ' : sxS) : Prop := (∀ k, k = 0 ∨ k = 2 ∨ k = 3 ∨ k = 8 ∨ k = 11 ∨ k = 17 ∨ k = 18 ∨ (119 < k ∧ k ≠ 126) → σ' k = σ k) ∧ σ' 1 = up1 (σ 1) 11 1 ∧ σ' 4 = up1 (σ 4) 6 (-1) ∧ σ' 7 = up1 (up1 (σ 7) 4 (-1)) 5 (-1) ∧ (∀ j, 0 ≤ j → j < 40 → σ' 9 j = -1) ∧ σ' 119 = up1 (up1 (σ 119) 10 (-1)) 1 1 ∧ σ' 126 = up1 (up1 (σ 126) 10 (-1)) 1 (-1)
theorem x1i (hK : ∀ σ', clI σ σ' → K none ((23, n, []) :: Sj 11 147) σ') : Rn 1 0 [some (vR 1)] [] ((23, n, []) :: Sj 0 0) σ K := by
  simp only [s1_0, s1_1]
  refine ⟨by simp only [List.length_nil]; omega, x1_4 (x1_15 (x1_30 (fun σ1 a1 => x1_41 (fun σ2 a2 => x1_52 (fun σ3 a3 => x1_63 (x1_79 (x1_95 (x1_110 (x1_125 (x1_136 (hK _ ?_)))))))))))⟩
  have q3 : ∀ k, (k < 19 ∨ 118 < k) → k ≠ 12 → k ≠ 14 → k ≠ 15 → σ3 k = σ1 k := fun k k0 k1 k2 k3 => by rw [a3 k k0, a2.1 k k1 k2 k3]
  have q1 : ∀ k, (k < 19 ∨ 118 < k) → k ≠ 4 → k ≠ 7 → k ≠ 9 → k ≠ 10 → k ≠ 12 → k ≠ 14 → k ≠ 15 → σ3 k = σ k := fun k k0 k1 k2 k3 k4 k5 k6 k7 => by rw [q3 k k0 k5 k6 k7, a1.1 k k2 k3 k4, sc_at, if_neg k1]
  refine ⟨fun k hk => ?_, ?_, ?_, ?_, fun j j0 j1 => ?_, ?_, ?_⟩
  · rw [sc_at, if_neg (by omega), sc_at, if_neg (by omega), sc_at, if_neg (by omega)]
    exact q1 k (by omega) (by omega) (by omega) (by omega) (by omega) (by omega) (by omega) (by omega)
  · rw [sc_at, if_pos rfl, sc_at, if_neg (by decide), sc_at, if_neg (by decide), q1 1 (by decide) (by decide) (by decide) (by decide) (by decide) (by decide) (by decide) (by decide)]
  · rw [sc_at, if_neg (by decide), sc_at, if_neg (by decide), sc_at, if_neg (by decide), q3 4 (by decide) (by decide) (by decide) (by decide), a1.1 4 (by decide) (by decide) (by decide), sc_at, if_pos rfl]
  · rw [sc_at, if_neg (by decide), sc_at, if_neg (by decide), sc_at, if_neg (by decide), q3 7 (by decide) (by decide) (by decide) (by decide), a1.2.1, sc_at, if_neg (by decide)]
  · rw [sc_at, if_neg (by decide), sc_at, if_neg (by decide), sc_at, if_neg (by decide), q3 9 (by decide) (by decide) (by decide) (by decide)]
    exact (a1.2.2 j j0 j1).1
  · rw [sc_at, if_neg (by decide), sc_at, if_neg (by decide), sc_at, if_pos rfl, q1 119 (by decide) (by decide) (by decide) (by decide) (by decide) (by decide) (by decide) (by decide)]
  · rw [sc_at, if_neg (by decide), sc_at, if_pos rfl, sc_at, if_neg (by decide), q1 126 (by decide) (by decide) (by decide) (by decide) (by decide) (by decide) (by decide) (by decide)]
end I4
