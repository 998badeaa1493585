/-! the law from its start -/
section X0
variable {n : Nat} {σ : sxS} {K : Option sxV → sxT → sxS → Prop}
theorem x0 (hn : n ≤ 3072) (hs : ∀ j, inI (σ 0 j)) (hz : ∀ k j, k ≠ 0 → σ k j = 0) (hK : ∀ σ, K (some (vI 1)) (T0 n) σ) : Rn 0 0 [some (vR 0), none, none, none] [] [(23, n, [])] σ K := by
  have len : ((23, n, []) :: Sj 11 147 : sxT).length = 149 := by rw [List.length_cons, show (Sj 11 147).length = 148 by decide +kernel]
  have e : ((23, n, []) :: Sj 11 147 : sxT) ++ [(9, 42, List.replicate 42 none)] = (23, n, []) :: Md 0 := congrArg (List.cons (23, n, [])) (show Sj 11 147 ++ [(9, 42, List.replicate 42 none)] = Md 0 by decide +kernel)
  have main : Rn 1 0 [some (vR 1)] [] ((23, n, []) :: Sj 0 0) σ (fun r T' σ' => Rn 0 7 [some (vR 0), none, none, none] (sx_push r [vR 1]) T' σ' K) := by
    refine x1i (fun σ1 h1 => ?_)
    have go : Rn 167 0 [some (vR 149)] [] ((23, n, []) :: Md 0) σ1 (fun r T' σ' => Rn 0 15 [some (vR 0), some (vR 1), none, none] (sx_push r [vR 149]) T' σ' K) := by
      refine x167i (fun σ2 h2 => ?_)
      have s := sta hz h1 h2
      simp only [s0_15, s0_16, s0_17, sx_push]
      exact x0l hn hK 512 0 0 σ2 (by omega) (by omega) (by omega) (by omega) s.1 (fun j => by rw [s.2]; exact hs j)
    simp only [s0_7, s0_8, s0_11, s0_12, sx_push, len, e]
    repeat' (first | intro _ | refine And.intro ?_ ?_)
    all_goals first | exact go | omega | (simp only [List.length_cons, List.length_nil]; omega)
  simp only [s0_0, s0_3, s0_4]
  repeat' (first | intro _ | refine And.intro ?_ ?_)
  all_goals first | exact main | (simp only [List.length_cons, List.length_nil]; omega)
end X0
