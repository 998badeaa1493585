/-! the loop of the law -/
section LL
variable {n : Nat} {K : Option sxV → sxT → sxS → Prop}
def lawRow (n pc : Nat) (K : Option sxV → sxT → sxS → Prop) : Prop := ∀ (c i : Int) (σ : sxS), c < 100000 → Rel c σ → 0 ≤ i → i + 6 ≤ n → n ≤ 3072 → (∀ j, inI (σ 0 j)) → (∀ σ2, Rel (c + 1) σ2 → σ2 0 = σ 0 → Rn 0 1657 [some (vR 0), some (vR 1), some (vR 149), some (vI i)] [] (T0 n) σ2 K) → Rn 0 pc [some (vR 0), some (vR 1), some (vR 149), some (vI i)] [] (T0 n) σ K
theorem x0l  (hn : n ≤ 3072) (hK : ∀ σ, K (some (vI 1)) (T0 n) σ) : ∀ (k : Nat) (i c : Int) (σ : sxS), (n : Int) < i + 6 * k + 6 → 0 ≤ i → i ≤ n + 6 → c + k < 100000 → Rel c σ → (∀ j, inI (σ 0 j)) → Rn 0 18 [some (vR 0), some (vR 1), some (vR 149), some (vI i)] [] (T0 n) σ K := by
  intro k
  induction k with
  | zero =>
    intro i c σ hi i0 i1 hc h hs
    have fin := hK σ
    rw [s0_18]
    simp only [s0_19, s0_20, s0_21, s0_23, s0_24, s0_1663, s0_1664, sx_push, tf, List.length_cons, List.length_nil, Option.some.injEq, exists_eq_left', Nat.reduceAdd, Nat.reduceLeDiff, true_and, and_true, true_or, or_true, Int.zero_add, Nat.zero_le, eq_self, ne_eq, not_true_eq_false, not_false_eq_true, false_implies, true_implies, implies_true, b2i_0, b2i_1, b2i_01, up_sc, sc_at, sc_sc, ite_true, ite_false, if_true, if_false, Nat.reduceEqDiff, reduceIte, t00]
    repeat' (first | intro _ | refine And.intro ?_ ?_)
    all_goals first | omega | exact fin
  | succ k ih =>
    intro i c σ hi i0 i1 hc h hs
    by_cases e : i + 6 ≤ n
    · have nx : ∀ σ2, Rel (c + 1) σ2 → σ2 0 = σ 0 → Rn 0 1657 [some (vR 0), some (vR 1), some (vR 149), some (vI i)] [] (T0 n) σ2 K := fun σ2 a b => by
        have go := ih (i + 6) (c + 1) σ2 (by omega) (by omega) (by omega) (by omega) a (fun j => by rw [b]; exact hs j)
        simp only [s0_1657, s0_1660, sx_push, tf, List.length_cons, List.length_nil, Option.some.injEq, exists_eq_left', Nat.reduceAdd, Nat.reduceLeDiff, true_and, and_true, true_or, or_true, Int.zero_add, Nat.zero_le, eq_self, ne_eq, not_true_eq_false, not_false_eq_true, false_implies, true_implies, implies_true, b2i_0, b2i_1, b2i_01, up_sc, sc_at, sc_sc, ite_true, ite_false, if_true, if_false, Nat.reduceEqDiff, reduceIte]
        repeat' (first | intro _ | refine And.intro ?_ ?_)
        all_goals first | omega | exact go
      have main : Rn 0 33 [some (vR 0), some (vR 1), some (vR 149), some (vI i)] [vI (sx_and (σ 0 i) 63)] (T0 n) σ K := by
        rw [s0_33]
        generalize sx_and (σ 0 i) 63 = v
        refine ⟨fun _ => lw0 (by omega) h i0 (by omega) hn hs (fun σ2 a b => nx σ2 a b), fun _ => ?_⟩
        refine ⟨fun _ => lw1 (by omega) h i0 (by omega) hn hs (fun σ2 a b => nx σ2 a b), fun _ => ?_⟩
        refine ⟨fun _ => lw2 (by omega) h i0 (by omega) hn hs (fun σ2 a b => nx σ2 a b), fun _ => ?_⟩
        refine ⟨fun _ => lw3 (by omega) h i0 (by omega) hn hs (fun σ2 a b => nx σ2 a b), fun _ => ?_⟩
        refine ⟨fun _ => lw4 (by omega) h i0 (by omega) hn hs (fun σ2 a b => nx σ2 a b), fun _ => ?_⟩
        refine ⟨fun _ => lw5 (by omega) h i0 (by omega) hn hs (fun σ2 a b => nx σ2 a b), fun _ => ?_⟩
        refine ⟨fun _ => lw6 (by omega) h i0 (by omega) hn hs (fun σ2 a b => nx σ2 a b), fun _ => ?_⟩
        refine ⟨fun _ => lw7 (by omega) h i0 (by omega) hn hs (fun σ2 a b => nx σ2 a b), fun _ => ?_⟩
        refine ⟨fun _ => lw8 (by omega) h i0 (by omega) hn hs (fun σ2 a b => nx σ2 a b), fun _ => ?_⟩
        refine ⟨fun _ => lw9 (by omega) h i0 (by omega) hn hs (fun σ2 a b => nx σ2 a b), fun _ => ?_⟩
        refine ⟨fun _ => lw10 (by omega) h i0 (by omega) hn hs (fun σ2 a b => nx σ2 a b), fun _ => ?_⟩
        refine ⟨fun _ => lw11 (by omega) h i0 (by omega) hn hs (fun σ2 a b => nx σ2 a b), fun _ => ?_⟩
        refine ⟨fun _ => lw12 (by omega) h i0 (by omega) hn hs (fun σ2 a b => nx σ2 a b), fun _ => ?_⟩
        refine ⟨fun _ => lw13 (by omega) h i0 (by omega) hn hs (fun σ2 a b => nx σ2 a b), fun _ => ?_⟩
        refine ⟨fun _ => lw14 (by omega) h i0 (by omega) hn hs (fun σ2 a b => nx σ2 a b), fun _ => ?_⟩
        refine ⟨fun _ => lw15 (by omega) h i0 (by omega) hn hs (fun σ2 a b => nx σ2 a b), fun _ => ?_⟩
        refine ⟨fun _ => lw16 (by omega) h i0 (by omega) hn hs (fun σ2 a b => nx σ2 a b), fun _ => ?_⟩
        refine ⟨fun _ => lw17 (by omega) h i0 (by omega) hn hs (fun σ2 a b => nx σ2 a b), fun _ => ?_⟩
        refine ⟨fun _ => lw18 (by omega) h i0 (by omega) hn hs (fun σ2 a b => nx σ2 a b), fun _ => ?_⟩
        refine ⟨fun _ => lw19 (by omega) h i0 (by omega) hn hs (fun σ2 a b => nx σ2 a b), fun _ => ?_⟩
        refine ⟨fun _ => lw20 (by omega) h i0 (by omega) hn hs (fun σ2 a b => nx σ2 a b), fun _ => ?_⟩
        refine ⟨fun _ => lw21 (by omega) h i0 (by omega) hn hs (fun σ2 a b => nx σ2 a b), fun _ => ?_⟩
        refine ⟨fun _ => lw22 (by omega) h i0 (by omega) hn hs (fun σ2 a b => nx σ2 a b), fun _ => ?_⟩
        refine ⟨fun _ => lw23 (by omega) h i0 (by omega) hn hs (fun σ2 a b => nx σ2 a b), fun _ => ?_⟩
        refine ⟨fun _ => lw24 (by omega) h i0 (by omega) hn hs (fun σ2 a b => nx σ2 a b), fun _ => ?_⟩
        refine ⟨fun _ => lw25 (by omega) h i0 (by omega) hn hs (fun σ2 a b => nx σ2 a b), fun _ => ?_⟩
        refine ⟨fun _ => lw26 (by omega) h i0 (by omega) hn hs (fun σ2 a b => nx σ2 a b), fun _ => ?_⟩
        refine ⟨fun _ => lw27 (by omega) h i0 (by omega) hn hs (fun σ2 a b => nx σ2 a b), fun _ => ?_⟩
        refine ⟨fun _ => lw28 (by omega) h i0 (by omega) hn hs (fun σ2 a b => nx σ2 a b), fun _ => ?_⟩
        refine ⟨fun _ => lw29 (by omega) h i0 (by omega) hn hs (fun σ2 a b => nx σ2 a b), fun _ => ?_⟩
        refine ⟨fun _ => lw30 (by omega) h i0 (by omega) hn hs (fun σ2 a b => nx σ2 a b), fun _ => ?_⟩
        refine ⟨fun _ => lw31 (by omega) h i0 (by omega) hn hs (fun σ2 a b => nx σ2 a b), fun _ => ?_⟩
        refine ⟨fun _ => lw32 (by omega) h i0 (by omega) hn hs (fun σ2 a b => nx σ2 a b), fun _ => ?_⟩
        refine ⟨fun _ => lw33 (by omega) h i0 (by omega) hn hs (fun σ2 a b => nx σ2 a b), fun _ => ?_⟩
        refine ⟨fun _ => lw34 (by omega) h i0 (by omega) hn hs (fun σ2 a b => nx σ2 a b), fun _ => ?_⟩
        refine ⟨fun _ => lw35 (by omega) h i0 (by omega) hn hs (fun σ2 a b => nx σ2 a b), fun _ => ?_⟩
        refine ⟨fun _ => lw36 (by omega) h i0 (by omega) hn hs (fun σ2 a b => nx σ2 a b), fun _ => ?_⟩
        refine ⟨fun _ => lw37 (by omega) h i0 (by omega) hn hs (fun σ2 a b => nx σ2 a b), fun _ => ?_⟩
        refine ⟨fun _ => lw38 (by omega) h i0 (by omega) hn hs (fun σ2 a b => nx σ2 a b), fun _ => ?_⟩
        refine ⟨fun _ => lw39 (by omega) h i0 (by omega) hn hs (fun σ2 a b => nx σ2 a b), fun _ => ?_⟩
        refine ⟨fun _ => lw40 (by omega) h i0 (by omega) hn hs (fun σ2 a b => nx σ2 a b), fun _ => ?_⟩
        refine ⟨fun _ => lw41 (by omega) h i0 (by omega) hn hs (fun σ2 a b => nx σ2 a b), fun _ => ?_⟩
        refine ⟨fun _ => lw42 (by omega) h i0 (by omega) hn hs (fun σ2 a b => nx σ2 a b), fun _ => ?_⟩
        refine ⟨fun _ => lw43 (by omega) h i0 (by omega) hn hs (fun σ2 a b => nx σ2 a b), fun _ => ?_⟩
        refine ⟨fun _ => lw44 (by omega) h i0 (by omega) hn hs (fun σ2 a b => nx σ2 a b), fun _ => ?_⟩
        refine ⟨fun _ => lw45 (by omega) h i0 (by omega) hn hs (fun σ2 a b => nx σ2 a b), fun _ => ?_⟩
        refine ⟨fun _ => lw46 (by omega) h i0 (by omega) hn hs (fun σ2 a b => nx σ2 a b), fun _ => ?_⟩
        have nx0 := nx σ (Rel_w h (by omega)) rfl
        exact nx0
      rw [s0_18]
      simp only [s0_19, s0_20, s0_21, s0_23, s0_24, s0_27, s0_28, s0_29, s0_30, s0_32, sx_push, tf, List.length_cons, List.length_nil, Option.some.injEq, exists_eq_left', Nat.reduceAdd, Nat.reduceLeDiff, true_and, and_true, true_or, or_true, Int.zero_add, Nat.zero_le, eq_self, ne_eq, not_true_eq_false, not_false_eq_true, false_implies, true_implies, implies_true, b2i_0, b2i_1, b2i_01, up_sc, sc_at, sc_sc, ite_true, ite_false, if_true, if_false, Nat.reduceEqDiff, reduceIte, t00]
      repeat' (first | intro _ | refine And.intro ?_ ?_)
      all_goals first | omega | exact main
    · have fin := hK σ
      rw [s0_18]
      simp only [s0_19, s0_20, s0_21, s0_23, s0_24, s0_1663, s0_1664, sx_push, tf, List.length_cons, List.length_nil, Option.some.injEq, exists_eq_left', Nat.reduceAdd, Nat.reduceLeDiff, true_and, and_true, true_or, or_true, Int.zero_add, Nat.zero_le, eq_self, ne_eq, not_true_eq_false, not_false_eq_true, false_implies, true_implies, implies_true, b2i_0, b2i_1, b2i_01, up_sc, sc_at, sc_sc, ite_true, ite_false, if_true, if_false, Nat.reduceEqDiff, reduceIte, t00]
      repeat' (first | intro _ | refine And.intro ?_ ?_)
      all_goals first | omega | exact fin
end LL
