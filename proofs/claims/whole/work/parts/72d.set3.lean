/-! a text: words taken: the class -/
section S3
variable {n : Nat} {σ : sxS} {K : Option sxV → sxT → sxS → Prop} {t : Int → Int} {L : Int}
theorem x21 (h : tpOk σ t L) {o : Nat} (o0 : 1000001 ≤ o) (o1 : o < 1000008) {a : Int} (ha : σ 4 7 = a) (a0 : 0 ≤ a) (a1 : a ≤ 1600) {W : List Int} (hW : sx_str (o - 1000001) = W) (hl : W.length ≤ 5) (K : Option sxV → sxT → sxS → Prop) : Rn 21 0 [some (vR 4), some (vR o), none] [] (T0 n) σ K ↔ K (some (vI (b2i (spJ t L W a = true)))) (T0 n) σ := by
  refine Rn_iff fun K hK => ?_
  simp only [s21_0, s21_1, sx_push, tf, List.length_cons, List.length_nil, Option.some.injEq, exists_eq_left', Nat.reduceAdd, Nat.reduceLeDiff, true_and, and_true, true_or, or_true, Int.zero_add, Nat.zero_le, eq_self, ne_eq, not_true_eq_false, not_false_eq_true, false_implies, true_implies, implies_true, b2i_0, b2i_1, b2i_01, up_sc, sc_at, sc_sc, ite_true, ite_false, if_true, if_false, Nat.reduceEqDiff, reduceIte]
  have go := x21l (n := n) (K := K) h o0 o1 ha a0 a1 hW hl W [] rfl
  rw [List.length_nil] at go
  rw [show a + ((0 : Nat) : Int) = a by omega] at go
  refine go (fun z => ?_) (fun z => ?_)
  · rw [b2i_t z] at hK; exact hK
  · rw [b2i_f (by rw [z]; decide)] at hK; exact hK
theorem x18 (h : tpOk σ t L) {o : Nat} (o0 : 1000001 ≤ o) (o1 : o < 1000008) {a : Int} (ha : σ 4 7 = a) (a0 : 0 ≤ a) (a1 : a ≤ L) {W : List Int} (hW : sx_str (o - 1000001) = W) (hl : W.length ≤ 5) (hK1 : spJ t L W (skF t L 1600 a) = true → K (some (vI 1)) (T0 n) (sc σ 4 (up1 (σ 4) 7 (skF t L 1600 a + W.length)))) (hK0 : ¬ spJ t L W (skF t L 1600 a) = true → K (some (vI 0)) (T0 n) (sc σ 4 (up1 (up1 (up1 (σ 4) 7 (skF t L 1600 a)) 5 1) 6 (skF t L 1600 a)))) : Rn 18 0 [some (vR 4), some (vR o)] [] (T0 n) σ K := by
  have sk := skF_in (t := t) (L := L) 1600 a a0 a1 (by have := h.2.1; omega)
  have h2 := h.2.1
  simp only [s18_0, s18_1, sx_push, tf, List.length_cons, List.length_nil, Option.some.injEq, exists_eq_left', Nat.reduceAdd, Nat.reduceLeDiff, true_and, and_true, true_or, or_true, Int.zero_add, Nat.zero_le, eq_self, ne_eq, not_true_eq_false, not_false_eq_true, false_implies, true_implies, implies_true, b2i_0, b2i_1, b2i_01, up_sc, sc_at, sc_sc, ite_true, ite_false, if_true, if_false, Nat.reduceEqDiff, reduceIte]
  refine x19 1600 a σ h ha a0 a1 (by omega) ?_
  generalize skF t L 1600 a = s at *
  have hs := fun K => x21 (n := n) (σ := sc σ 4 (up1 (σ 4) 7 s)) (tpOk_4 h) o0 o1 (a := s) (by simp only [sc_at, reduceIte]; rw [up1_s]) (by omega) (by omega) hW hl K
  have u7 : up1 (σ 4) 7 s 7 = s := up1_s _ _ _
  by_cases e : spJ t L W s = true
  · have hK := hK1 e
    simp only [s18_4, s18_5, s18_6, s18_9, s18_22, s18_23, s18_24, s18_27, s18_28, s18_31, s18_32, s18_35, s18_36, sx_push, tf, List.length_cons, List.length_nil, Option.some.injEq, exists_eq_left', Nat.reduceAdd, Nat.reduceLeDiff, true_and, and_true, true_or, or_true, Int.zero_add, Nat.zero_le, eq_self, ne_eq, not_true_eq_false, not_false_eq_true, false_implies, true_implies, implies_true, b2i_0, b2i_1, b2i_01, up_sc, sc_at, sc_sc, ite_true, ite_false, if_true, if_false, Nat.reduceEqDiff, reduceIte, hs, hW, u7, up1_up1, e]
    repeat' (first | intro _ | refine And.intro ?_ ?_)
    all_goals first | omega | exact hK
  · have hK := hK0 e
    simp only [s18_4, s18_5, s18_6, s18_9, s18_12, s18_13, s18_14, s18_15, s18_18, s18_21, sx_push, tf, List.length_cons, List.length_nil, Option.some.injEq, exists_eq_left', Nat.reduceAdd, Nat.reduceLeDiff, true_and, and_true, true_or, or_true, Int.zero_add, Nat.zero_le, eq_self, ne_eq, not_true_eq_false, not_false_eq_true, false_implies, true_implies, implies_true, b2i_0, b2i_1, b2i_01, up_sc, sc_at, sc_sc, ite_true, ite_false, if_true, if_false, Nat.reduceEqDiff, reduceIte, hs, x23, u7]
    repeat' (first | intro _ | refine And.intro ?_ ?_)
    all_goals first | exact hK | (exfalso; rename_i z1; exact e (Classical.not_not.mp z1)) | (exfalso; rename_i z1; exact z1 e) | (exfalso; rename_i z1; exact e z1) | omega
theorem x24 (h : tpOk σ t L) {a : Int} (ha : σ 4 7 = a) (a0 : 0 ≤ a) (a1 : a ≤ L) (hK1 : bt t L (skF t L 1600 a) = 59 → K (some (vI 1)) (T0 n) (sc σ 4 (up1 (σ 4) 7 (skF t L 1600 a + 1)))) (hK0 : bt t L (skF t L 1600 a) ≠ 59 → K (some (vI 0)) (T0 n) (sc σ 4 (up1 (up1 (up1 (σ 4) 7 (skF t L 1600 a)) 5 1) 6 (skF t L 1600 a)))) : Rn 24 0 [some (vR 4)] [] (T0 n) σ K := by
  have sk := skF_in (t := t) (L := L) 1600 a a0 a1 (by have := h.2.1; omega)
  have h2 := h.2.1
  simp only [s24_0, s24_1, sx_push, tf, List.length_cons, List.length_nil, Option.some.injEq, exists_eq_left', Nat.reduceAdd, Nat.reduceLeDiff, true_and, and_true, true_or, or_true, Int.zero_add, Nat.zero_le, eq_self, ne_eq, not_true_eq_false, not_false_eq_true, false_implies, true_implies, implies_true, b2i_0, b2i_1, b2i_01, up_sc, sc_at, sc_sc, ite_true, ite_false, if_true, if_false, Nat.reduceEqDiff, reduceIte]
  refine x19 1600 a σ h ha a0 a1 (by omega) ?_
  generalize skF t L 1600 a = s at *
  have u7 : up1 (σ 4) 7 s 7 = s := up1_s _ _ _
  have hb := fun K => x20b (n := n) (tpOk_4 (g := up1 (σ 4) 7 s) h) (i := s) K
  by_cases e : bt t L s = 59
  · have hK := hK1 e
    simp only [s24_4, s24_5, s24_8, s24_9, s24_12, s24_15, s24_17, s24_30, s24_31, s24_32, s24_35, s24_36, s24_37, s24_40, s24_41, sx_push, tf, List.length_cons, List.length_nil, Option.some.injEq, exists_eq_left', Nat.reduceAdd, Nat.reduceLeDiff, true_and, and_true, true_or, or_true, Int.zero_add, Nat.zero_le, eq_self, ne_eq, not_true_eq_false, not_false_eq_true, false_implies, true_implies, implies_true, b2i_0, b2i_1, b2i_01, up_sc, sc_at, sc_sc, ite_true, ite_false, if_true, if_false, Nat.reduceEqDiff, reduceIte, hb, u7, up1_up1, e]
    repeat' (first | intro _ | refine And.intro ?_ ?_)
    all_goals first | omega | exact hK
  · have hK := hK0 e
    simp only [s24_4, s24_5, s24_8, s24_9, s24_12, s24_15, s24_17, s24_20, s24_21, s24_22, s24_23, s24_26, s24_29, sx_push, tf, List.length_cons, List.length_nil, Option.some.injEq, exists_eq_left', Nat.reduceAdd, Nat.reduceLeDiff, true_and, and_true, true_or, or_true, Int.zero_add, Nat.zero_le, eq_self, ne_eq, not_true_eq_false, not_false_eq_true, false_implies, true_implies, implies_true, b2i_0, b2i_1, b2i_01, up_sc, sc_at, sc_sc, ite_true, ite_false, if_true, if_false, Nat.reduceEqDiff, reduceIte, hb, x23, u7]
    repeat' (first | intro _ | refine And.intro ?_ ?_)
    all_goals first | omega | exact hK | contradiction
end S3
