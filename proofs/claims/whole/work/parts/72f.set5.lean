/-! a text: a word: the reference, whole -/
section S5
variable {n : Nat} {σ : sxS} {K : Option sxV → sxT → sxS → Prop} {t : Int → Int} {L : Int}
theorem x177 (hL : σ 149 12 = L) (hl : L ≤ 1600) (ht : ∀ j, 0 ≤ j → j < L → σ 154 j = t j) {a : Int} (ha : σ 149 13 = a) (a0 : 0 ≤ a) (a1 : a ≤ L) (h0 : σ 149 15 = 0) (hK1 : sml (bt t L (skF t L 1600 a)) → ¬ sml (bt t L (skF t L 1600 a - 1)) → ¬ dgt (bt t L (skF t L 1600 a - 1)) → K none (T0 n) (sc σ 149 (up1 (up1 (up1 (σ 149) 13 (skF t L 1600 a)) 14 (skF t L 1600 a)) 13 (ltF t L 1600 (skF t L 1600 a))))) (hK0 : ¬ (sml (bt t L (skF t L 1600 a)) ∧ ¬ sml (bt t L (skF t L 1600 a - 1)) ∧ ¬ dgt (bt t L (skF t L 1600 a - 1))) → K none (T0 n) (sc σ 149 (up1 (up1 (up1 (up1 (σ 149) 13 (skF t L 1600 a)) 14 (skF t L 1600 a)) 15 1) 16 (skF t L 1600 a)))) : Rn 177 0 [some (vR 149)] [] (T0 n) σ K := by
  have sk := skF_in (t := t) (L := L) 1600 a a0 a1 (by omega)
  have main : Rn 179 0 [some (vR 149)] [] (T0 n) σ (fun r T' σ' => Rn 177 12 [some (vR 149)] (sx_push r []) T' σ' K) := by
    refine x179 1600 a σ hL hl ht ha a0 a1 (by omega) ?_
    generalize skF t L 1600 a = s at *
    have g12 : up1 (up1 (σ 149) 13 s) 14 s 12 = L := by rw [up1_n (by omega), up1_n (by omega)]; exact hL
    have g13 : up1 (up1 (σ 149) 13 s) 14 s 13 = s := by rw [up1_n (by omega), up1_s]
    have g15 : up1 (up1 (σ 149) 13 s) 14 s 15 = 0 := by rw [up1_n (by omega), up1_n (by omega)]; exact h0
    have u13 : up1 (σ 149) 13 s 13 = s := up1_s _ _ _
    have q12 : sc σ 149 (up1 (up1 (σ 149) 13 s) 14 s) 149 12 = L := by simp only [sc_at, reduceIte]; exact g12
    have q154 : ∀ j, 0 ≤ j → j < L → sc σ 149 (up1 (up1 (σ 149) 13 s) 14 s) 154 j = t j := by simpa [sc_at] using ht
    have q13 : sc σ 149 (up1 (up1 (σ 149) 13 s) 14 s) 149 13 = s := by simp only [sc_at, reduceIte]; exact g13
    have q15 : sc σ 149 (up1 (up1 (σ 149) 13 s) 14 s) 149 15 = 0 := by simp only [sc_at, reduceIte]; exact g15
    have w181 := fun i K => x181 (n := n) (σ := sc σ 149 (up1 (up1 (σ 149) 13 s) 14 s)) (K := K) q12 hl q154 (i := i)
    have w182 := fun i K => x182 (n := n) (σ := sc σ 149 (up1 (up1 (σ 149) 13 s) 14 s)) (K := K) q12 hl q154 (i := i)
    have w183 := fun K => x183y (n := n) (σ := sc σ 149 (up1 (up1 (σ 149) 13 s) 14 s)) (K := K) (k := 1) (a := s) q15
    by_cases e : sml (bt t L s) ∧ ¬ sml (bt t L (s - 1)) ∧ ¬ dgt (bt t L (s - 1))
    · have hK := hK1 e.1 e.2.1 e.2.2
      have go : Rn 177 68 [some (vR 149)] [] (T0 n) (sc σ 149 (up1 (up1 (σ 149) 13 s) 14 s)) K := x177l 1600 s _ q12 hl q154 q13 (by omega) (by omega) (by omega) (by simp only [sc_at, reduceIte, sc_sc]; exact hK)
      unfold sml dgt at e
      simp only [s177_12, s177_13, s177_14, s177_15, s177_18, s177_21, s177_22, s177_23, s177_26, s177_29, s177_32, s177_33, s177_34, s177_37, s177_38, s177_39, s177_42, s177_45, s177_46, s177_47, s177_50, s177_51, s177_52, s177_55, sx_push, tf, List.length_cons, List.length_nil, Option.some.injEq, exists_eq_left', Nat.reduceAdd, Nat.reduceLeDiff, true_and, and_true, true_or, or_true, Int.zero_add, Nat.zero_le, eq_self, ne_eq, not_true_eq_false, not_false_eq_true, false_implies, true_implies, implies_true, b2i_0, b2i_1, b2i_01, up_sc, sc_at, sc_sc, ite_true, ite_false, if_true, if_false, Nat.reduceEqDiff, reduceIte, u13, g13, w181, w182]
      repeat' (first | intro _ | refine And.intro ?_ ?_)
      all_goals first | omega | exact go
    · have hK := hK0 e
      unfold sml dgt at e
      simp only [sc_at, reduceIte, sc_sc] at w183
      simp only [s177_12, s177_13, s177_14, s177_15, s177_18, s177_21, s177_22, s177_23, s177_26, s177_29, s177_32, s177_33, s177_34, s177_37, s177_38, s177_39, s177_42, s177_45, s177_46, s177_47, s177_50, s177_51, s177_52, s177_55, s177_58, s177_59, s177_60, s177_61, s177_64, s177_67, sx_push, tf, List.length_cons, List.length_nil, Option.some.injEq, exists_eq_left', Nat.reduceAdd, Nat.reduceLeDiff, true_and, and_true, true_or, or_true, Int.zero_add, Nat.zero_le, eq_self, ne_eq, not_true_eq_false, not_false_eq_true, false_implies, true_implies, implies_true, b2i_0, b2i_1, b2i_01, up_sc, sc_at, sc_sc, ite_true, ite_false, if_true, if_false, Nat.reduceEqDiff, reduceIte, u13, g13, w181, w182, w183]
      repeat' (first | intro _ | refine And.intro ?_ ?_)
      all_goals first | omega | exact hK
  simp only [s177_0, s177_1, s177_4, s177_7, s177_8, s177_9, sx_push, tf, List.length_cons, List.length_nil, Option.some.injEq, exists_eq_left', Nat.reduceAdd, Nat.reduceLeDiff, true_and, and_true, true_or, or_true, Int.zero_add, Nat.zero_le, eq_self, ne_eq, not_true_eq_false, not_false_eq_true, false_implies, true_implies, implies_true, b2i_0, b2i_1, b2i_01, up_sc, sc_at, sc_sc, ite_true, ite_false, if_true, if_false, Nat.reduceEqDiff, reduceIte, x178, h0]
  repeat' (first | intro _ | refine And.intro ?_ ?_)
  all_goals first | exact main | omega
end S5
