/-! the constructors: the class -/
theorem kL {A X : sxT} {i : Nat} (h : i < A.length) : sx_kd (A ++ X) i = sx_kd A i := by unfold sx_kd; rw [List.getElem?_append_left h]
/-- the class's own cells behind the first j fields and the first k other cells -/
def P8 (j : Nat) : Nat × Nat × List (Option Nat) := (8, 12, ([some 2, some 4, some 7, some 12, some 17, some 119, some 126, some 133, some 141, some 146, some 148, none].take j) ++ List.replicate (12 - j) none)
def Sj (j k : Nat) : sxT := P8 j :: (T0r.drop 1).take k
def kpL (i : Nat) : List (Option Nat) := (List.range 20).map (fun k => if k < i then some (19 + 5 * k) else none)
def blL (i : Nat) : sxT := (List.range i).flatMap (fun k => ptB (19 + 5 * k))
def Hs (i : Nat) : sxT := Sj 4 15 ++ [(0, 3, [some 18, none, none]), (22, 20, kpL i)] ++ blL i
theorem Hs_f : ∀ i : Fin 20, (Hs i).length = 18 + 5 * i ∧ sx_kd (Hs i) 17 = 22 ∧ sx_kd (Hs i) 16 = 0 ∧ sx_rf (Hs i) 16 0 = some 18 ∧ sx_kd (Hs i ++ ptB (19 + 5 * i)) 17 = 22 ∧ sx_kd (Hs i ++ ptB (19 + 5 * i)) (18 + 5 * i) = 2 ∧ sx_setR (Hs i ++ ptB (19 + 5 * i)) 17 i (19 + 5 * i) = Hs (i + 1) := by decide +kernel
theorem Hs_l : ∀ i : Fin 20, sx_ln (Hs i ++ ptB (19 + 5 * i)) 17 = 20 := by decide +kernel
section I2
variable {n : Nat} {σ : sxS} {K : Option sxV → sxT → sxS → Prop}
theorem x6l : ∀ (k : Nat) (i : Nat) (σ : sxS), i + k = 20 → (∀ σ', (∀ k, (k < 19 ∨ 118 < k) → σ' k = σ k) → K none ((23, n, []) :: Hs 20) σ') → Rn 6 15 [some (vR 17), some (vI i)] [] ((23, n, []) :: Hs i) σ K := by
  intro k
  induction k with
  | zero =>
    intro i σ hi hK
    obtain rfl : i = 20 := by omega
    have fin := hK σ (fun k _ => rfl)
    rw [s6_15]
    simp only [s6_16, s6_18, s6_40]
    repeat' (first | intro _ | refine And.intro ?_ ?_)
    all_goals first | omega | exact fin
  | succ k ih =>
    intro i σ hi hK
    have i1 : i < 20 := by omega
    obtain ⟨f1, f2, f3, f4, f5, f6, f7⟩ := Hs_f ⟨i, i1⟩
    have f8 := Hs_l ⟨i, i1⟩
    simp only at f1 f2 f3 f4 f5 f6 f7 f8
    have len : ((23, n, []) :: Hs i : sxT).length = 19 + 5 * i := by rw [List.length_cons, f1]; omega
    have k17 : sx_kd ((23, n, []) :: Hs i) 17 = 0 := f3
    have r17 : sx_rf ((23, n, []) :: Hs i) 17 0 = some 18 := f4
    have main : Rn 4 0 [some (vR ((23, n, []) :: Hs i : sxT).length)] [] (((23, n, []) :: Hs i : sxT) ++ [(2, 7, List.replicate 7 none)]) σ (fun r T' σ' => Rn 6 33 [some (vR 17), some (vI i)] (sx_push r [vR ((23, n, []) :: Hs i : sxT).length, vI i, vR 18]) T' σ' K) := by
      refine x4i (by omega) (fun σ' h' => ?_)
      rw [len] at h' ⊢
      simp only [s6_33, sx_push]
      refine ⟨⟨f5, by omega, ?_, ?_⟩, ?_⟩
      · show (i : Int) < sx_ln (Hs i ++ ptB (19 + 5 * i)) 17
        rw [f8]; omega
      · show sx_kd ((23, n, []) :: (Hs i ++ ptB (19 + 5 * i))) (19 + 5 * i) = 2
        exact (congrArg (sx_kd ((23, n, []) :: (Hs i ++ ptB (19 + 5 * i)))) (show 19 + 5 * i = (18 + 5 * i) + 1 by omega)).trans f6
      · have e : sx_setR (((23, n, []) :: Hs i : sxT) ++ ptB (19 + 5 * i)) 18 ((i : Int).toNat) (19 + 5 * i) = (23, n, []) :: Hs (i + 1) := by
          rw [Int.toNat_natCast]
          show (23, n, []) :: sx_setR (Hs i ++ ptB (19 + 5 * i)) 17 i (19 + 5 * i) = _
          rw [f7]
        rw [e]
        simp only [s6_34, s6_37]
        refine ⟨by omega, ?_⟩
        have go := ih (i + 1) σ' (by omega) (fun σ2 h2 => hK σ2 (fun k hk => by rw [h2 k hk]; exact h'.1 k (by omega) (by omega) (by omega)))
        rw [show ((i + 1 : Nat) : Int) = (i : Int) + 1 by omega] at go
        exact go
    rw [s6_15]
    simp only [s6_16, s6_18, s6_21, s6_22, s6_25, s6_26, s6_29, s6_30, k17, r17, Option.some.injEq, exists_eq_left', true_and, List.length_cons, List.length_nil] at *
    repeat' (first | intro _ | refine And.intro ?_ ?_)
    all_goals first | omega | exact main
end I2
