/-! a text: the measure, all of it: the class -/
def msE (ms : Int) : Int := if ms = 0 then 3 else 4
def mrG (t : Int → Int) (L ms e : Int) : Prop := spJ t L (sx_str 0) (skF t L 1600 0) = true ∧ spJ t L (sx_str 1) (skF t L 1600 (skF t L 1600 0 + 3)) = true ∧ (0 ≤ ms ∧ ms ≤ 2) ∧ spJ t L (sx_str (2 + ms.toNat)) (skF t L 1600 (skF t L 1600 (skF t L 1600 0 + 3) + 2)) = true ∧ bt t L (skF t L 1600 (skF t L 1600 (skF t L 1600 (skF t L 1600 0 + 3) + 2) + msE ms)) = 59 ∧ e = skF t L 1600 (skF t L 1600 (skF t L 1600 (skF t L 1600 0 + 3) + 2) + msE ms) + 1
def mrB (t : Int → Int) (L p : Int) : Prop := (¬ spJ t L (sx_str 0) (skF t L 1600 0) = true ∧ p = skF t L 1600 0) ∨ (spJ t L (sx_str 0) (skF t L 1600 0) = true ∧ ((¬ spJ t L (sx_str 1) (skF t L 1600 (skF t L 1600 0 + 3)) = true ∧ p = skF t L 1600 (skF t L 1600 0 + 3)) ∨ (spJ t L (sx_str 1) (skF t L 1600 (skF t L 1600 0 + 3)) = true ∧ ((¬ spJ t L (sx_str 2) (skF t L 1600 (skF t L 1600 (skF t L 1600 0 + 3) + 2)) = true ∧ ¬ spJ t L (sx_str 3) (skF t L 1600 (skF t L 1600 (skF t L 1600 0 + 3) + 2)) = true ∧ ¬ spJ t L (sx_str 4) (skF t L 1600 (skF t L 1600 (skF t L 1600 0 + 3) + 2)) = true ∧ p = skF t L 1600 (skF t L 1600 (skF t L 1600 0 + 3) + 2)) ∨ ∃ ms : Int, (0 ≤ ms ∧ ms ≤ 2) ∧ spJ t L (sx_str (2 + ms.toNat)) (skF t L 1600 (skF t L 1600 (skF t L 1600 0 + 3) + 2)) = true ∧ bt t L (skF t L 1600 (skF t L 1600 (skF t L 1600 (skF t L 1600 0 + 3) + 2) + msE ms)) ≠ 59 ∧ p = skF t L 1600 (skF t L 1600 (skF t L 1600 (skF t L 1600 0 + 3) + 2) + msE ms)))))
def psG (t : Int → Int) (L : Int) : Nat → Int → (Int → Int) → Int → Int → (Int → Int) → Prop
  | 0, c, F, a, c', F' => ¬ skF t L 1600 a < L ∧ c' = c ∧ F' = F
  | m + 1, c, F, a, c', F' => skF t L 1600 a < L ∧ ∃ F1 e, ptG t L c F (skF t L 1600 a) F1 e ∧ psG t L m (c + 1) F1 e c' F'
def psB (t : Int → Int) (L : Int) : Nat → Int → (Int → Int) → Int → Int → Int → Prop
  | 0, c, F, a, k, p => skF t L 1600 a < L ∧ ptZ t L c F (skF t L 1600 a) k p
  | m + 1, c, F, a, k, p => skF t L 1600 a < L ∧ ∃ F1 e, ptG t L c F (skF t L 1600 a) F1 e ∧ psB t L m (c + 1) F1 e k p
section SA
variable {n : Nat} {σ : sxS} {K : Option sxV → sxT → sxS → Prop} {t : Int → Int} {L : Int}
theorem x18f (h : tpOk σ t L) {o : Nat} (o0 : 1000001 ≤ o) (o1 : o < 1000008) {a s : Int} (ha : σ 4 7 = a) (a0 : 0 ≤ a) (a1 : a ≤ L) {W : List Int} (hW : sx_str (o - 1000001) = W) (hl : W.length ≤ 5) (hs : skF t L 1600 a = s) (hK1 : spJ t L W s = true → ∀ σ', c4 σ σ' → (∀ j, j ≠ 7 → σ' 4 j = σ 4 j) → σ' 4 7 = s + W.length → K (some (vI 1)) (T0 n) σ') (hK0 : ¬ spJ t L W s = true → ∀ σ', c4 σ σ' → (∀ j, j ≠ 5 → j ≠ 6 → j ≠ 7 → σ' 4 j = σ 4 j) → σ' 4 5 = 1 → σ' 4 6 = s → K (some (vI 0)) (T0 n) σ') : Rn 18 0 [some (vR 4), some (vR o)] [] (T0 n) σ K := by
  subst hs
  exact x18 h o0 o1 ha a0 a1 hW hl (fun y => hK1 y _ (fun q hq => by rw [sc_at, if_neg hq]) (fun j j7 => by rw [sc_at, if_pos rfl, up1_n j7]) (by rw [sc_at, if_pos rfl, up1_s])) (fun y => hK0 y _ (fun q hq => by rw [sc_at, if_neg hq]) (fun j j5 j6 j7 => by rw [sc_at, if_pos rfl, up1_n j6, up1_n j5, up1_n j7]) (by rw [sc_at, if_pos rfl, up1_n (by decide), up1_s]) (by rw [sc_at, if_pos rfl, up1_s]))
theorem x24f (h : tpOk σ t L) {a s : Int} (ha : σ 4 7 = a) (a0 : 0 ≤ a) (a1 : a ≤ L) (hs : skF t L 1600 a = s) (hK1 : bt t L s = 59 → ∀ σ', c4 σ σ' → (∀ j, j ≠ 7 → σ' 4 j = σ 4 j) → σ' 4 7 = s + 1 → K (some (vI 1)) (T0 n) σ') (hK0 : bt t L s ≠ 59 → ∀ σ', c4 σ σ' → (∀ j, j ≠ 5 → j ≠ 6 → j ≠ 7 → σ' 4 j = σ 4 j) → σ' 4 5 = 1 → σ' 4 6 = s → K (some (vI 0)) (T0 n) σ') : Rn 24 0 [some (vR 4)] [] (T0 n) σ K := by
  subst hs
  exact x24 h ha a0 a1 (fun y => hK1 y _ (fun q hq => by rw [sc_at, if_neg hq]) (fun j j7 => by rw [sc_at, if_pos rfl, up1_n j7]) (by rw [sc_at, if_pos rfl, up1_s])) (fun y => hK0 y _ (fun q hq => by rw [sc_at, if_neg hq]) (fun j j5 j6 j7 => by rw [sc_at, if_pos rfl, up1_n j6, up1_n j5, up1_n j7]) (by rw [sc_at, if_pos rfl, up1_n (by decide), up1_s]) (by rw [sc_at, if_pos rfl, up1_s]))
theorem x17t0 (h : tpOk σ t L) {s : Int} (ha : σ 4 7 = s) (a0 : 0 ≤ s) (a1 : s ≤ L) (hb : ¬ blk (bt t L s)) (hK1 : spJ t L (sx_str 2) s = true → bt t L (skF t L 1600 (s + 3)) = 59 → ∀ σ', c4 σ σ' → (∀ j, j ≠ 7 → σ' 4 j = σ 4 j) → σ' 4 7 = skF t L 1600 (s + 3) + 1 → K (some (vI 1)) (T0 n) σ') (hK0 : ¬ spJ t L (sx_str 2) s = true → ∀ σ', c4 σ σ' → σ' 4 5 = 1 → σ' 4 6 = s → K (some (vI 0)) (T0 n) σ') (hK2 : spJ t L (sx_str 2) s = true → bt t L (skF t L 1600 (s + 3)) ≠ 59 → ∀ σ', c4 σ σ' → σ' 4 5 = 1 → σ' 4 6 = skF t L 1600 (s + 3) → K (some (vI 0)) (T0 n) σ') : Rn 17 38 [some (vR 4)] [] (T0 n) σ K := by
  have h2 := h.2.1
  have go : Rn 18 0 [some (vR 4), some (vR 1000003)] [] (T0 n) σ (fun r T' σ' => Rn 17 44 [some (vR 4)] (sx_push r []) T' σ' K) := by
    refine x18f h (o := 1000003) (by omega) (by omega) ha a0 a1 (W := sx_str 2) rfl (by decide) (skF_skF hb) (fun y σ1 f1 f2 f3 => ?_) (fun y σ1 f1 f2 f3 f4 => ?_)
    rotate_left
    · have hK := hK0 y σ1 f1 f3 f4
      simp only [s17_44, s17_58, s17_59, Int.reduceToNat, Int.reducePow, Nat.reducePow, Int.reduceLE, Int.reduceLT, Int.reduceNeg, Int.reduceEq, Int.reduceNe, Int.reduceAdd, Int.reduceSub, Int.reduceMul, and_self, sx_push, tf, List.length_cons, List.length_nil, Option.some.injEq, exists_eq_left', Nat.reduceAdd, Nat.reduceLeDiff, true_and, and_true, true_or, or_true, Int.zero_add, Nat.zero_le, eq_self, ne_eq, not_true_eq_false, not_false_eq_true, false_implies, true_implies, implies_true, b2i_0, b2i_1, b2i_01, up_sc, sc_at, sc_sc, ite_true, ite_false, if_true, if_false, Nat.reduceEqDiff, reduceIte]
      repeat' (first | intro _ | refine And.intro ?_ ?_)
      all_goals first | omega | exact hK
    have i0 := spJ_in (j := 2) (by decide) h2.2 a0 a1 y
    rw [show ((sx_str 2).length : Int) = 3 from rfl] at i0 f3
    have t1 := c4_tp h f1
    have go2 : Rn 24 0 [some (vR 4)] [] (T0 n) σ1 (fun r T' σ' => Rn 17 51 [some (vR 4)] (sx_push r []) T' σ' K) := by
      refine x24f t1 f3 (by omega) (by omega) rfl (fun y2 σ2 g1 g2 g3 => ?_) (fun y2 σ2 g1 g2 g3 g4 => ?_)
      · have hK := hK1 y y2 σ2 (c4_tr f1 g1) (fun j j7 => by rw [g2 j j7, f2 j j7]) g3
        simp only [s17_51, s17_54, s17_55, s17_58, s17_59, Int.reduceToNat, Int.reducePow, Nat.reducePow, Int.reduceLE, Int.reduceLT, Int.reduceNeg, Int.reduceEq, Int.reduceNe, Int.reduceAdd, Int.reduceSub, Int.reduceMul, and_self, sx_push, tf, List.length_cons, List.length_nil, Option.some.injEq, exists_eq_left', Nat.reduceAdd, Nat.reduceLeDiff, true_and, and_true, true_or, or_true, Int.zero_add, Nat.zero_le, eq_self, ne_eq, not_true_eq_false, not_false_eq_true, false_implies, true_implies, implies_true, b2i_0, b2i_1, b2i_01, up_sc, sc_at, sc_sc, ite_true, ite_false, if_true, if_false, Nat.reduceEqDiff, reduceIte]
        repeat' (first | intro _ | refine And.intro ?_ ?_)
        all_goals first | omega | exact hK
      · have hK := hK2 y y2 σ2 (c4_tr f1 g1) g3 g4
        simp only [s17_51, s17_58, s17_59, Int.reduceToNat, Int.reducePow, Nat.reducePow, Int.reduceLE, Int.reduceLT, Int.reduceNeg, Int.reduceEq, Int.reduceNe, Int.reduceAdd, Int.reduceSub, Int.reduceMul, and_self, sx_push, tf, List.length_cons, List.length_nil, Option.some.injEq, exists_eq_left', Nat.reduceAdd, Nat.reduceLeDiff, true_and, and_true, true_or, or_true, Int.zero_add, Nat.zero_le, eq_self, ne_eq, not_true_eq_false, not_false_eq_true, false_implies, true_implies, implies_true, b2i_0, b2i_1, b2i_01, up_sc, sc_at, sc_sc, ite_true, ite_false, if_true, if_false, Nat.reduceEqDiff, reduceIte]
        repeat' (first | intro _ | refine And.intro ?_ ?_)
        all_goals first | omega | exact hK
    simp only [s17_44, s17_47, s17_48, Int.reduceToNat, Int.reducePow, Nat.reducePow, Int.reduceLE, Int.reduceLT, Int.reduceNeg, Int.reduceEq, Int.reduceNe, Int.reduceAdd, Int.reduceSub, Int.reduceMul, and_self, sx_push, tf, List.length_cons, List.length_nil, Option.some.injEq, exists_eq_left', Nat.reduceAdd, Nat.reduceLeDiff, true_and, and_true, true_or, or_true, Int.zero_add, Nat.zero_le, eq_self, ne_eq, not_true_eq_false, not_false_eq_true, false_implies, true_implies, implies_true, b2i_0, b2i_1, b2i_01, up_sc, sc_at, sc_sc, ite_true, ite_false, if_true, if_false, Nat.reduceEqDiff, reduceIte]
    repeat' (first | intro _ | refine And.intro ?_ ?_)
    all_goals first | omega | exact go2
  simp only [s17_38, s17_39, s17_41, Int.reduceToNat, Int.reducePow, Nat.reducePow, Int.reduceLE, Int.reduceLT, Int.reduceNeg, Int.reduceEq, Int.reduceNe, Int.reduceAdd, Int.reduceSub, Int.reduceMul, and_self, sx_push, tf, List.length_cons, List.length_nil, Option.some.injEq, exists_eq_left', Nat.reduceAdd, Nat.reduceLeDiff, true_and, and_true, true_or, or_true, Int.zero_add, Nat.zero_le, eq_self, ne_eq, not_true_eq_false, not_false_eq_true, false_implies, true_implies, implies_true, b2i_0, b2i_1, b2i_01, up_sc, sc_at, sc_sc, ite_true, ite_false, if_true, if_false, Nat.reduceEqDiff, reduceIte]
  repeat' (first | intro _ | refine And.intro ?_ ?_)
  all_goals first | omega | exact go
theorem x17t1 (h : tpOk σ t L) {s : Int} (ha : σ 4 7 = s) (a0 : 0 ≤ s) (a1 : s ≤ L) (hb : ¬ blk (bt t L s)) (hK1 : spJ t L (sx_str 3) s = true → bt t L (skF t L 1600 (s + 4)) = 59 → ∀ σ', c4 σ σ' → (∀ j, j ≠ 7 → σ' 4 j = σ 4 j) → σ' 4 7 = skF t L 1600 (s + 4) + 1 → K (some (vI 1)) (T0 n) σ') (hK0 : ¬ spJ t L (sx_str 3) s = true → ∀ σ', c4 σ σ' → σ' 4 5 = 1 → σ' 4 6 = s → K (some (vI 0)) (T0 n) σ') (hK2 : spJ t L (sx_str 3) s = true → bt t L (skF t L 1600 (s + 4)) ≠ 59 → ∀ σ', c4 σ σ' → σ' 4 5 = 1 → σ' 4 6 = skF t L 1600 (s + 4) → K (some (vI 0)) (T0 n) σ') : Rn 17 74 [some (vR 4)] [] (T0 n) σ K := by
  have h2 := h.2.1
  have go : Rn 18 0 [some (vR 4), some (vR 1000004)] [] (T0 n) σ (fun r T' σ' => Rn 17 80 [some (vR 4)] (sx_push r []) T' σ' K) := by
    refine x18f h (o := 1000004) (by omega) (by omega) ha a0 a1 (W := sx_str 3) rfl (by decide) (skF_skF hb) (fun y σ1 f1 f2 f3 => ?_) (fun y σ1 f1 f2 f3 f4 => ?_)
    rotate_left
    · have hK := hK0 y σ1 f1 f3 f4
      simp only [s17_80, s17_94, s17_95, Int.reduceToNat, Int.reducePow, Nat.reducePow, Int.reduceLE, Int.reduceLT, Int.reduceNeg, Int.reduceEq, Int.reduceNe, Int.reduceAdd, Int.reduceSub, Int.reduceMul, and_self, sx_push, tf, List.length_cons, List.length_nil, Option.some.injEq, exists_eq_left', Nat.reduceAdd, Nat.reduceLeDiff, true_and, and_true, true_or, or_true, Int.zero_add, Nat.zero_le, eq_self, ne_eq, not_true_eq_false, not_false_eq_true, false_implies, true_implies, implies_true, b2i_0, b2i_1, b2i_01, up_sc, sc_at, sc_sc, ite_true, ite_false, if_true, if_false, Nat.reduceEqDiff, reduceIte]
      repeat' (first | intro _ | refine And.intro ?_ ?_)
      all_goals first | omega | exact hK
    have i0 := spJ_in (j := 3) (by decide) h2.2 a0 a1 y
    rw [show ((sx_str 3).length : Int) = 4 from rfl] at i0 f3
    have t1 := c4_tp h f1
    have go2 : Rn 24 0 [some (vR 4)] [] (T0 n) σ1 (fun r T' σ' => Rn 17 87 [some (vR 4)] (sx_push r []) T' σ' K) := by
      refine x24f t1 f3 (by omega) (by omega) rfl (fun y2 σ2 g1 g2 g3 => ?_) (fun y2 σ2 g1 g2 g3 g4 => ?_)
      · have hK := hK1 y y2 σ2 (c4_tr f1 g1) (fun j j7 => by rw [g2 j j7, f2 j j7]) g3
        simp only [s17_87, s17_90, s17_91, s17_94, s17_95, Int.reduceToNat, Int.reducePow, Nat.reducePow, Int.reduceLE, Int.reduceLT, Int.reduceNeg, Int.reduceEq, Int.reduceNe, Int.reduceAdd, Int.reduceSub, Int.reduceMul, and_self, sx_push, tf, List.length_cons, List.length_nil, Option.some.injEq, exists_eq_left', Nat.reduceAdd, Nat.reduceLeDiff, true_and, and_true, true_or, or_true, Int.zero_add, Nat.zero_le, eq_self, ne_eq, not_true_eq_false, not_false_eq_true, false_implies, true_implies, implies_true, b2i_0, b2i_1, b2i_01, up_sc, sc_at, sc_sc, ite_true, ite_false, if_true, if_false, Nat.reduceEqDiff, reduceIte]
        repeat' (first | intro _ | refine And.intro ?_ ?_)
        all_goals first | omega | exact hK
      · have hK := hK2 y y2 σ2 (c4_tr f1 g1) g3 g4
        simp only [s17_87, s17_94, s17_95, Int.reduceToNat, Int.reducePow, Nat.reducePow, Int.reduceLE, Int.reduceLT, Int.reduceNeg, Int.reduceEq, Int.reduceNe, Int.reduceAdd, Int.reduceSub, Int.reduceMul, and_self, sx_push, tf, List.length_cons, List.length_nil, Option.some.injEq, exists_eq_left', Nat.reduceAdd, Nat.reduceLeDiff, true_and, and_true, true_or, or_true, Int.zero_add, Nat.zero_le, eq_self, ne_eq, not_true_eq_false, not_false_eq_true, false_implies, true_implies, implies_true, b2i_0, b2i_1, b2i_01, up_sc, sc_at, sc_sc, ite_true, ite_false, if_true, if_false, Nat.reduceEqDiff, reduceIte]
        repeat' (first | intro _ | refine And.intro ?_ ?_)
        all_goals first | omega | exact hK
    simp only [s17_80, s17_83, s17_84, Int.reduceToNat, Int.reducePow, Nat.reducePow, Int.reduceLE, Int.reduceLT, Int.reduceNeg, Int.reduceEq, Int.reduceNe, Int.reduceAdd, Int.reduceSub, Int.reduceMul, and_self, sx_push, tf, List.length_cons, List.length_nil, Option.some.injEq, exists_eq_left', Nat.reduceAdd, Nat.reduceLeDiff, true_and, and_true, true_or, or_true, Int.zero_add, Nat.zero_le, eq_self, ne_eq, not_true_eq_false, not_false_eq_true, false_implies, true_implies, implies_true, b2i_0, b2i_1, b2i_01, up_sc, sc_at, sc_sc, ite_true, ite_false, if_true, if_false, Nat.reduceEqDiff, reduceIte]
    repeat' (first | intro _ | refine And.intro ?_ ?_)
    all_goals first | omega | exact go2
  simp only [s17_74, s17_75, s17_77, Int.reduceToNat, Int.reducePow, Nat.reducePow, Int.reduceLE, Int.reduceLT, Int.reduceNeg, Int.reduceEq, Int.reduceNe, Int.reduceAdd, Int.reduceSub, Int.reduceMul, and_self, sx_push, tf, List.length_cons, List.length_nil, Option.some.injEq, exists_eq_left', Nat.reduceAdd, Nat.reduceLeDiff, true_and, and_true, true_or, or_true, Int.zero_add, Nat.zero_le, eq_self, ne_eq, not_true_eq_false, not_false_eq_true, false_implies, true_implies, implies_true, b2i_0, b2i_1, b2i_01, up_sc, sc_at, sc_sc, ite_true, ite_false, if_true, if_false, Nat.reduceEqDiff, reduceIte]
  repeat' (first | intro _ | refine And.intro ?_ ?_)
  all_goals first | omega | exact go
theorem x17t2 (h : tpOk σ t L) {s : Int} (ha : σ 4 7 = s) (a0 : 0 ≤ s) (a1 : s ≤ L) (hb : ¬ blk (bt t L s)) (hK1 : spJ t L (sx_str 4) s = true → bt t L (skF t L 1600 (s + 4)) = 59 → ∀ σ', c4 σ σ' → (∀ j, j ≠ 7 → σ' 4 j = σ 4 j) → σ' 4 7 = skF t L 1600 (s + 4) + 1 → K (some (vI 1)) (T0 n) σ') (hK0 : ¬ spJ t L (sx_str 4) s = true → ∀ σ', c4 σ σ' → σ' 4 5 = 1 → σ' 4 6 = s → K (some (vI 0)) (T0 n) σ') (hK2 : spJ t L (sx_str 4) s = true → bt t L (skF t L 1600 (s + 4)) ≠ 59 → ∀ σ', c4 σ σ' → σ' 4 5 = 1 → σ' 4 6 = skF t L 1600 (s + 4) → K (some (vI 0)) (T0 n) σ') : Rn 17 101 [some (vR 4)] [] (T0 n) σ K := by
  have h2 := h.2.1
  have go : Rn 18 0 [some (vR 4), some (vR 1000005)] [] (T0 n) σ (fun r T' σ' => Rn 17 107 [some (vR 4)] (sx_push r []) T' σ' K) := by
    refine x18f h (o := 1000005) (by omega) (by omega) ha a0 a1 (W := sx_str 4) rfl (by decide) (skF_skF hb) (fun y σ1 f1 f2 f3 => ?_) (fun y σ1 f1 f2 f3 f4 => ?_)
    rotate_left
    · have hK := hK0 y σ1 f1 f3 f4
      simp only [s17_107, s17_121, s17_122, Int.reduceToNat, Int.reducePow, Nat.reducePow, Int.reduceLE, Int.reduceLT, Int.reduceNeg, Int.reduceEq, Int.reduceNe, Int.reduceAdd, Int.reduceSub, Int.reduceMul, and_self, sx_push, tf, List.length_cons, List.length_nil, Option.some.injEq, exists_eq_left', Nat.reduceAdd, Nat.reduceLeDiff, true_and, and_true, true_or, or_true, Int.zero_add, Nat.zero_le, eq_self, ne_eq, not_true_eq_false, not_false_eq_true, false_implies, true_implies, implies_true, b2i_0, b2i_1, b2i_01, up_sc, sc_at, sc_sc, ite_true, ite_false, if_true, if_false, Nat.reduceEqDiff, reduceIte]
      repeat' (first | intro _ | refine And.intro ?_ ?_)
      all_goals first | omega | exact hK
    have i0 := spJ_in (j := 4) (by decide) h2.2 a0 a1 y
    rw [show ((sx_str 4).length : Int) = 4 from rfl] at i0 f3
    have t1 := c4_tp h f1
    have go2 : Rn 24 0 [some (vR 4)] [] (T0 n) σ1 (fun r T' σ' => Rn 17 114 [some (vR 4)] (sx_push r []) T' σ' K) := by
      refine x24f t1 f3 (by omega) (by omega) rfl (fun y2 σ2 g1 g2 g3 => ?_) (fun y2 σ2 g1 g2 g3 g4 => ?_)
      · have hK := hK1 y y2 σ2 (c4_tr f1 g1) (fun j j7 => by rw [g2 j j7, f2 j j7]) g3
        simp only [s17_114, s17_117, s17_118, s17_121, s17_122, Int.reduceToNat, Int.reducePow, Nat.reducePow, Int.reduceLE, Int.reduceLT, Int.reduceNeg, Int.reduceEq, Int.reduceNe, Int.reduceAdd, Int.reduceSub, Int.reduceMul, and_self, sx_push, tf, List.length_cons, List.length_nil, Option.some.injEq, exists_eq_left', Nat.reduceAdd, Nat.reduceLeDiff, true_and, and_true, true_or, or_true, Int.zero_add, Nat.zero_le, eq_self, ne_eq, not_true_eq_false, not_false_eq_true, false_implies, true_implies, implies_true, b2i_0, b2i_1, b2i_01, up_sc, sc_at, sc_sc, ite_true, ite_false, if_true, if_false, Nat.reduceEqDiff, reduceIte]
        repeat' (first | intro _ | refine And.intro ?_ ?_)
        all_goals first | omega | exact hK
      · have hK := hK2 y y2 σ2 (c4_tr f1 g1) g3 g4
        simp only [s17_114, s17_121, s17_122, Int.reduceToNat, Int.reducePow, Nat.reducePow, Int.reduceLE, Int.reduceLT, Int.reduceNeg, Int.reduceEq, Int.reduceNe, Int.reduceAdd, Int.reduceSub, Int.reduceMul, and_self, sx_push, tf, List.length_cons, List.length_nil, Option.some.injEq, exists_eq_left', Nat.reduceAdd, Nat.reduceLeDiff, true_and, and_true, true_or, or_true, Int.zero_add, Nat.zero_le, eq_self, ne_eq, not_true_eq_false, not_false_eq_true, false_implies, true_implies, implies_true, b2i_0, b2i_1, b2i_01, up_sc, sc_at, sc_sc, ite_true, ite_false, if_true, if_false, Nat.reduceEqDiff, reduceIte]
        repeat' (first | intro _ | refine And.intro ?_ ?_)
        all_goals first | omega | exact hK
    simp only [s17_107, s17_110, s17_111, Int.reduceToNat, Int.reducePow, Nat.reducePow, Int.reduceLE, Int.reduceLT, Int.reduceNeg, Int.reduceEq, Int.reduceNe, Int.reduceAdd, Int.reduceSub, Int.reduceMul, and_self, sx_push, tf, List.length_cons, List.length_nil, Option.some.injEq, exists_eq_left', Nat.reduceAdd, Nat.reduceLeDiff, true_and, and_true, true_or, or_true, Int.zero_add, Nat.zero_le, eq_self, ne_eq, not_true_eq_false, not_false_eq_true, false_implies, true_implies, implies_true, b2i_0, b2i_1, b2i_01, up_sc, sc_at, sc_sc, ite_true, ite_false, if_true, if_false, Nat.reduceEqDiff, reduceIte]
    repeat' (first | intro _ | refine And.intro ?_ ?_)
    all_goals first | omega | exact go2
  simp only [s17_101, s17_102, s17_104, Int.reduceToNat, Int.reducePow, Nat.reducePow, Int.reduceLE, Int.reduceLT, Int.reduceNeg, Int.reduceEq, Int.reduceNe, Int.reduceAdd, Int.reduceSub, Int.reduceMul, and_self, sx_push, tf, List.length_cons, List.length_nil, Option.some.injEq, exists_eq_left', Nat.reduceAdd, Nat.reduceLeDiff, true_and, and_true, true_or, or_true, Int.zero_add, Nat.zero_le, eq_self, ne_eq, not_true_eq_false, not_false_eq_true, false_implies, true_implies, implies_true, b2i_0, b2i_1, b2i_01, up_sc, sc_at, sc_sc, ite_true, ite_false, if_true, if_false, Nat.reduceEqDiff, reduceIte]
  repeat' (first | intro _ | refine And.intro ?_ ?_)
  all_goals first | omega | exact go
theorem x17 (h : tpOk σ t L) (ha : σ 4 7 = 0) (hK1 : ∀ σ' ms e, mrG t L ms e → c4 σ σ' → (∀ j, j ≠ 3 → j ≠ 7 → σ' 4 j = σ 4 j) → σ' 4 3 = ms → σ' 4 7 = e → (0 ≤ e ∧ e ≤ L) → K (some (vI 1)) (T0 n) σ') (hK0 : ∀ σ' p, mrB t L p → c4 σ σ' → σ' 4 5 = 1 → σ' 4 6 = p → K (some (vI 0)) (T0 n) σ') : Rn 17 0 [some (vR 4)] [] (T0 n) σ K := by
  have h2 := h.2.1
  unfold mrG at hK1
  unfold mrB at hK0
  have k0 := (skF_in (t := t) (L := L) 1600 0 (by omega) (by omega) (by omega)).1
  generalize hs0 : skF t L 1600 0 = s0 at *
  have go : Rn 18 0 [some (vR 4), some (vR 1000001)] [] (T0 n) σ (fun r T' σ' => Rn 17 6 [some (vR 4)] (sx_push r []) T' σ' K) := by
    refine x18f h (o := 1000001) (by omega) (by omega) ha (by omega) (by omega) (W := sx_str 0) rfl (by decide) hs0 (fun y0 σ1 f1 f2 f3 => ?_) (fun y0 σ1 f1 f2 f3 f4 => ?_)
    rotate_left
    · have hK := hK0 σ1 s0 (Or.inl ⟨y0, rfl⟩) f1 f3 f4
      simp only [s17_6, s17_18, s17_19, Int.reduceToNat, Int.reducePow, Nat.reducePow, Int.reduceLE, Int.reduceLT, Int.reduceNeg, Int.reduceEq, Int.reduceNe, Int.reduceAdd, Int.reduceSub, Int.reduceMul, and_self, sx_push, tf, List.length_cons, List.length_nil, Option.some.injEq, exists_eq_left', Nat.reduceAdd, Nat.reduceLeDiff, true_and, and_true, true_or, or_true, Int.zero_add, Nat.zero_le, eq_self, ne_eq, not_true_eq_false, not_false_eq_true, false_implies, true_implies, implies_true, b2i_0, b2i_1, b2i_01, up_sc, sc_at, sc_sc, ite_true, ite_false, if_true, if_false, Nat.reduceEqDiff, reduceIte]
      repeat' (first | intro _ | refine And.intro ?_ ?_)
      all_goals first | omega | exact hK
    have i0 := spJ_in (j := 0) (by decide) h2.2 (by omega) (by omega) y0
    rw [show ((sx_str 0).length : Int) = 3 from rfl] at i0 f3
    have t1 := c4_tp h f1
    have k1 := (skF_in (t := t) (L := L) 1600 (s0 + 3) (by omega) (by omega) (by omega)).1
    generalize hs1 : skF t L 1600 (s0 + 3) = s1 at *
    have go1 : Rn 18 0 [some (vR 4), some (vR 1000002)] [] (T0 n) σ1 (fun r T' σ' => Rn 17 15 [some (vR 4)] (sx_push r []) T' σ' K) := by
      refine x18f t1 (o := 1000002) (by omega) (by omega) f3 (by omega) (by omega) (W := sx_str 1) rfl (by decide) hs1 (fun y1 σ2 g1 g2 g3 => ?_) (fun y1 σ2 g1 g2 g3 g4 => ?_)
      rotate_left
      · have hK := hK0 σ2 s1 (Or.inr ⟨y0, Or.inl ⟨y1, rfl⟩⟩) (c4_tr f1 g1) g3 g4
        simp only [s17_15, s17_18, s17_19, Int.reduceToNat, Int.reducePow, Nat.reducePow, Int.reduceLE, Int.reduceLT, Int.reduceNeg, Int.reduceEq, Int.reduceNe, Int.reduceAdd, Int.reduceSub, Int.reduceMul, and_self, sx_push, tf, List.length_cons, List.length_nil, Option.some.injEq, exists_eq_left', Nat.reduceAdd, Nat.reduceLeDiff, true_and, and_true, true_or, or_true, Int.zero_add, Nat.zero_le, eq_self, ne_eq, not_true_eq_false, not_false_eq_true, false_implies, true_implies, implies_true, b2i_0, b2i_1, b2i_01, up_sc, sc_at, sc_sc, ite_true, ite_false, if_true, if_false, Nat.reduceEqDiff, reduceIte]
        repeat' (first | intro _ | refine And.intro ?_ ?_)
        all_goals first | omega | exact hK
      have i1 := spJ_in (j := 1) (by decide) h2.2 (by omega) (by omega) y1
      rw [show ((sx_str 1).length : Int) = 2 from rfl] at i1 g3
      have t2 := c4_tp t1 g1
      have k2 := skF_in (t := t) (L := L) 1600 (s1 + 2) (by omega) (by omega) (by omega)
      have go2 : Rn 19 0 [some (vR 4)] [] (T0 n) σ2 (fun r T' σ' => Rn 17 24 [some (vR 4)] (sx_push r []) T' σ' K) := by
        refine x19 1600 (s1 + 2) σ2 t2 g3 (by omega) (by omega) (by omega) ?_
        generalize hs2 : skF t L 1600 (s1 + 2) = s2 at *
        have m1 : c4 σ (sc σ2 4 (up1 (σ2 4) 7 s2)) := fun q hq => by rw [sc_at, if_neg hq, g1 q hq, f1 q hq]
        have m2 : ∀ j, j ≠ 7 → sc σ2 4 (up1 (σ2 4) 7 s2) 4 j = σ 4 j := fun j j7 => by rw [sc_at, if_pos rfl, up1_n j7, g2 j j7, f2 j j7]
        have m3 : sc σ2 4 (up1 (σ2 4) 7 s2) 4 7 = s2 := by rw [sc_at, if_pos rfl, up1_s]
        generalize sc σ2 4 (up1 (σ2 4) 7 s2) = σ3 at *
        have t3 := c4_tp h m1
        have w2 := fun K => x21 (n := n) (σ := σ3) t3 (o := 1000003) (by omega) (by omega) m3 (by omega) (by omega) (W := sx_str 2) rfl (by decide) K
        have w3 := fun K => x21 (n := n) (σ := σ3) t3 (o := 1000004) (by omega) (by omega) m3 (by omega) (by omega) (W := sx_str 3) rfl (by decide) K
        have tl : ∀ (ms : Int), c4 σ (sc σ3 4 (up1 (σ3 4) 3 ms)) ∧ (∀ j, j ≠ 3 → j ≠ 7 → sc σ3 4 (up1 (σ3 4) 3 ms) 4 j = σ 4 j) ∧ sc σ3 4 (up1 (σ3 4) 3 ms) 4 3 = ms ∧ sc σ3 4 (up1 (σ3 4) 3 ms) 4 7 = s2 := fun ms => ⟨fun q hq => by rw [sc_at, if_neg hq, m1 q hq], fun j j3 j7 => by rw [sc_at, if_pos rfl, up1_n j3, m2 j j7], by rw [sc_at, if_pos rfl, up1_s], by rw [sc_at, if_pos rfl, up1_n (by decide), m3]⟩
        have bs : ∀ x, bt t L x = 59 → x < L := fun x hx => by
          apply Classical.byContradiction
          intro w
          rw [bt_out (by omega)] at hx
          omega
        by_cases e2 : spJ t L (sx_str 2) s2 = true
        · obtain ⟨q1, q2, q3, q4⟩ := tl 0
          have i2 := spJ_in (j := 2) (by decide) h2.2 (by omega) (by omega) e2
          rw [show ((sx_str 2).length : Int) = 3 from rfl] at i2
          have k3 := (skF_in (t := t) (L := L) 1600 (s2 + 3) (by omega) (by omega) (by omega)).1
          have fin : Rn 17 38 [some (vR 4)] [] (T0 n) (sc σ3 4 (up1 (σ3 4) 3 0)) K := by
            refine x17t0 (c4_tp h q1) q4 (by omega) (by omega) k2.2.1 (fun _ y σ4 p1 p2 p3 => ?_) (fun y => absurd e2 y) (fun _ y σ4 p1 p2 p3 => ?_)
            · exact hK1 σ4 0 (skF t L 1600 (s2 + 3) + 1) ⟨y0, y1, by omega, e2, y, rfl⟩ (c4_tr q1 p1) (fun j j3 j7 => by rw [p2 j j7, q2 j j3 j7]) (by rw [p2 3 (by decide), q3]) p3 (by have := bs _ y; omega)
            · exact hK0 σ4 _ (Or.inr ⟨y0, Or.inr ⟨y1, Or.inr ⟨0, by omega, e2, y, rfl⟩⟩⟩) (c4_tr q1 p1) p2 p3
          simp only [s17_24, s17_25, s17_27, s17_30, s17_33, s17_34, s17_35, Int.reduceToNat, Int.reducePow, Nat.reducePow, Int.reduceLE, Int.reduceLT, Int.reduceNeg, Int.reduceEq, Int.reduceNe, Int.reduceAdd, Int.reduceSub, Int.reduceMul, and_self, sx_push, tf, List.length_cons, List.length_nil, Option.some.injEq, exists_eq_left', Nat.reduceAdd, Nat.reduceLeDiff, true_and, and_true, true_or, or_true, Int.zero_add, Nat.zero_le, eq_self, ne_eq, not_true_eq_false, not_false_eq_true, false_implies, true_implies, implies_true, b2i_0, b2i_1, b2i_01, up_sc, sc_at, sc_sc, ite_true, ite_false, if_true, if_false, Nat.reduceEqDiff, reduceIte, w2, e2]
          repeat' (first | intro _ | refine And.intro ?_ ?_)
          all_goals first | omega | contradiction | exact fin
        · by_cases e3 : spJ t L (sx_str 3) s2 = true
          · obtain ⟨q1, q2, q3, q4⟩ := tl 1
            have i2 := spJ_in (j := 3) (by decide) h2.2 (by omega) (by omega) e3
            rw [show ((sx_str 3).length : Int) = 4 from rfl] at i2
            have k3 := (skF_in (t := t) (L := L) 1600 (s2 + 4) (by omega) (by omega) (by omega)).1
            have fin : Rn 17 74 [some (vR 4)] [] (T0 n) (sc σ3 4 (up1 (σ3 4) 3 1)) K := by
              refine x17t1 (c4_tp h q1) q4 (by omega) (by omega) k2.2.1 (fun _ y σ4 p1 p2 p3 => ?_) (fun y => absurd e3 y) (fun _ y σ4 p1 p2 p3 => ?_)
              · exact hK1 σ4 1 (skF t L 1600 (s2 + 4) + 1) ⟨y0, y1, by omega, e3, y, rfl⟩ (c4_tr q1 p1) (fun j j3 j7 => by rw [p2 j j7, q2 j j3 j7]) (by rw [p2 3 (by decide), q3]) p3 (by have := bs _ y; omega)
              · exact hK0 σ4 _ (Or.inr ⟨y0, Or.inr ⟨y1, Or.inr ⟨1, by omega, e3, y, rfl⟩⟩⟩) (c4_tr q1 p1) p2 p3
            simp only [s17_24, s17_25, s17_27, s17_30, s17_60, s17_61, s17_63, s17_66, s17_69, s17_70, s17_71, Int.reduceToNat, Int.reducePow, Nat.reducePow, Int.reduceLE, Int.reduceLT, Int.reduceNeg, Int.reduceEq, Int.reduceNe, Int.reduceAdd, Int.reduceSub, Int.reduceMul, and_self, sx_push, tf, List.length_cons, List.length_nil, Option.some.injEq, exists_eq_left', Nat.reduceAdd, Nat.reduceLeDiff, true_and, and_true, true_or, or_true, Int.zero_add, Nat.zero_le, eq_self, ne_eq, not_true_eq_false, not_false_eq_true, false_implies, true_implies, implies_true, b2i_0, b2i_1, b2i_01, up_sc, sc_at, sc_sc, ite_true, ite_false, if_true, if_false, Nat.reduceEqDiff, reduceIte, w2, w3, e2, e3]
            repeat' (first | intro _ | refine And.intro ?_ ?_)
            all_goals first | omega | contradiction | exact fin
          · obtain ⟨q1, q2, q3, q4⟩ := tl 2
            have fin : Rn 17 101 [some (vR 4)] [] (T0 n) (sc σ3 4 (up1 (σ3 4) 3 2)) K := by
              refine x17t2 (c4_tp h q1) q4 (by omega) (by omega) k2.2.1 (fun e4 y σ4 p1 p2 p3 => ?_) (fun e4 σ4 p1 p2 p3 => ?_) (fun e4 y σ4 p1 p2 p3 => ?_)
              · have i2 := spJ_in (j := 4) (by decide) h2.2 (by omega) (by omega) e4
                rw [show ((sx_str 4).length : Int) = 4 from rfl] at i2
                have k3 := (skF_in (t := t) (L := L) 1600 (s2 + 4) (by omega) (by omega) (by omega)).1
                exact hK1 σ4 2 (skF t L 1600 (s2 + 4) + 1) ⟨y0, y1, by omega, e4, y, rfl⟩ (c4_tr q1 p1) (fun j j3 j7 => by rw [p2 j j7, q2 j j3 j7]) (by rw [p2 3 (by decide), q3]) p3 (by have := bs _ y; omega)
              · exact hK0 σ4 s2 (Or.inr ⟨y0, Or.inr ⟨y1, Or.inl ⟨e2, e3, e4, rfl⟩⟩⟩) (c4_tr q1 p1) p2 p3
              · exact hK0 σ4 _ (Or.inr ⟨y0, Or.inr ⟨y1, Or.inr ⟨2, by omega, e4, y, rfl⟩⟩⟩) (c4_tr q1 p1) p2 p3
            simp only [s17_24, s17_25, s17_27, s17_30, s17_60, s17_61, s17_63, s17_66, s17_96, s17_97, s17_98, Int.reduceToNat, Int.reducePow, Nat.reducePow, Int.reduceLE, Int.reduceLT, Int.reduceNeg, Int.reduceEq, Int.reduceNe, Int.reduceAdd, Int.reduceSub, Int.reduceMul, and_self, sx_push, tf, List.length_cons, List.length_nil, Option.some.injEq, exists_eq_left', Nat.reduceAdd, Nat.reduceLeDiff, true_and, and_true, true_or, or_true, Int.zero_add, Nat.zero_le, eq_self, ne_eq, not_true_eq_false, not_false_eq_true, false_implies, true_implies, implies_true, b2i_0, b2i_1, b2i_01, up_sc, sc_at, sc_sc, ite_true, ite_false, if_true, if_false, Nat.reduceEqDiff, reduceIte, w2, w3, e2, e3]
            repeat' (first | intro _ | refine And.intro ?_ ?_)
            all_goals first | omega | contradiction | exact fin
      simp only [s17_15, s17_20, s17_21, Int.reduceToNat, Int.reducePow, Nat.reducePow, Int.reduceLE, Int.reduceLT, Int.reduceNeg, Int.reduceEq, Int.reduceNe, Int.reduceAdd, Int.reduceSub, Int.reduceMul, and_self, sx_push, tf, List.length_cons, List.length_nil, Option.some.injEq, exists_eq_left', Nat.reduceAdd, Nat.reduceLeDiff, true_and, and_true, true_or, or_true, Int.zero_add, Nat.zero_le, eq_self, ne_eq, not_true_eq_false, not_false_eq_true, false_implies, true_implies, implies_true, b2i_0, b2i_1, b2i_01, up_sc, sc_at, sc_sc, ite_true, ite_false, if_true, if_false, Nat.reduceEqDiff, reduceIte]
      repeat' (first | intro _ | refine And.intro ?_ ?_)
      all_goals first | omega | exact go2
    simp only [s17_6, s17_9, s17_10, s17_12, Int.reduceToNat, Int.reducePow, Nat.reducePow, Int.reduceLE, Int.reduceLT, Int.reduceNeg, Int.reduceEq, Int.reduceNe, Int.reduceAdd, Int.reduceSub, Int.reduceMul, and_self, sx_push, tf, List.length_cons, List.length_nil, Option.some.injEq, exists_eq_left', Nat.reduceAdd, Nat.reduceLeDiff, true_and, and_true, true_or, or_true, Int.zero_add, Nat.zero_le, eq_self, ne_eq, not_true_eq_false, not_false_eq_true, false_implies, true_implies, implies_true, b2i_0, b2i_1, b2i_01, up_sc, sc_at, sc_sc, ite_true, ite_false, if_true, if_false, Nat.reduceEqDiff, reduceIte]
    repeat' (first | intro _ | refine And.intro ?_ ?_)
    all_goals first | omega | exact go1
  simp only [s17_0, s17_1, s17_3, Int.reduceToNat, Int.reducePow, Nat.reducePow, Int.reduceLE, Int.reduceLT, Int.reduceNeg, Int.reduceEq, Int.reduceNe, Int.reduceAdd, Int.reduceSub, Int.reduceMul, and_self, sx_push, tf, List.length_cons, List.length_nil, Option.some.injEq, exists_eq_left', Nat.reduceAdd, Nat.reduceLeDiff, true_and, and_true, true_or, or_true, Int.zero_add, Nat.zero_le, eq_self, ne_eq, not_true_eq_false, not_false_eq_true, false_implies, true_implies, implies_true, b2i_0, b2i_1, b2i_01, up_sc, sc_at, sc_sc, ite_true, ite_false, if_true, if_false, Nat.reduceEqDiff, reduceIte]
  repeat' (first | intro _ | refine And.intro ?_ ?_)
  all_goals first | omega | exact go
theorem x16l : ∀ (k : Nat) (c a : Int) (F : Int → Int) (σ : sxS), c + k = 40 → tpOk σ t L → σ 4 7 = a → 0 ≤ a → a ≤ L → cSt σ c F → (∀ σ' m c' F', psG t L m c F a c' F' → c46 σ σ' → (∀ j, j ≠ 4 → j ≠ 7 → j ≠ 8 → σ' 4 j = σ 4 j) → cSt σ' c' F' → K (some (vI 1)) (T0 n) σ') → (∀ σ' m k p, psB t L m c F a k p → c46 σ σ' → σ' 4 3 = σ 4 3 → σ' 4 5 = k → σ' 4 6 = p → K (some (vI 0)) (T0 n) σ') → Rn 16 31 [some (vR 4), some (vI c)] [] (T0 n) σ K := by
  intro k
  induction k with
  | zero =>
    intro c a F σ hc h ha a0 a1 hS hK1 hK0
    have h2 := h.2.1
    have sk := skF_in (t := t) (L := L) 1600 a a0 a1 (by omega)
    have s2 := hS.2.1
    have go : Rn 19 0 [some (vR 4)] [] (T0 n) σ (fun r T' σ' => Rn 25 4 [some (vR 4)] (sx_push r []) T' σ' (fun r T' σ' => Rn 16 41 [some (vR 4), some (vI c)] (sx_push r []) T' σ' K)) := by
      refine x19 1600 a σ h ha a0 a1 (by omega) ?_
      have f1 : c4 σ (sc σ 4 (up1 (σ 4) 7 (skF t L 1600 a))) := fun q hq => by rw [sc_at, if_neg hq]
      have f2 : ∀ j, j ≠ 7 → sc σ 4 (up1 (σ 4) 7 (skF t L 1600 a)) 4 j = σ 4 j := fun j j7 => by rw [sc_at, if_pos rfl, up1_n j7]
      have f3 : sc σ 4 (up1 (σ 4) 7 (skF t L 1600 a)) 4 7 = skF t L 1600 a := by rw [sc_at, if_pos rfl, up1_s]
      generalize sc σ 4 (up1 (σ 4) 7 (skF t L 1600 a)) = σ1 at *
      have t1 := c4_tp h f1
      have tl := t1.1
      have hS1 : cSt σ1 c F := cSt_4 hS (f2 4 (by decide)) (f1 5 (by decide)) (f1 6 (by decide))
      by_cases y : skF t L 1600 a < L
      · have pt : Rn 26 0 [some (vR 4)] [] (T0 n) σ1 (fun r T' σ' => Rn 16 48 [some (vR 4), some (vI c)] (sx_push r []) T' σ' K) := by
          refine x26 t1 f3 (by omega) (by omega) sk.2.1 hS1 (fun σ2 F' e g1 g2 g3 g4 g5 g6 => ?_) (fun σ2 k p g1 g2 g3 g4 g5 => ?_)
          · have := g1.1
            omega
          · have hK := hK0 σ2 0 k p ⟨y, g1⟩ (c46_tr (c46_4 f1) g2) (by rw [g3, f2 3 (by decide)]) g4 g5
            simp only [s16_48, s16_51, s16_52, Int.reduceToNat, Int.reducePow, Nat.reducePow, Int.reduceLE, Int.reduceLT, Int.reduceNeg, Int.reduceEq, Int.reduceNe, Int.reduceAdd, Int.reduceSub, Int.reduceMul, and_self, sx_push, tf, List.length_cons, List.length_nil, Option.some.injEq, exists_eq_left', Nat.reduceAdd, Nat.reduceLeDiff, true_and, and_true, true_or, or_true, Int.zero_add, Nat.zero_le, eq_self, ne_eq, not_true_eq_false, not_false_eq_true, false_implies, true_implies, implies_true, b2i_0, b2i_1, b2i_01, up_sc, sc_at, sc_sc, ite_true, ite_false, if_true, if_false, Nat.reduceEqDiff, reduceIte]
            repeat' (first | intro _ | refine And.intro ?_ ?_)
            all_goals first | omega | exact hK
        simp only [s25_4, s25_5, s25_8, s25_9, s25_12, s25_15, s25_18, s25_19, s25_22, s25_23, s16_41, s16_44, s16_45, Int.reduceToNat, Int.reducePow, Nat.reducePow, Int.reduceLE, Int.reduceLT, Int.reduceNeg, Int.reduceEq, Int.reduceNe, Int.reduceAdd, Int.reduceSub, Int.reduceMul, and_self, sx_push, tf, List.length_cons, List.length_nil, Option.some.injEq, exists_eq_left', Nat.reduceAdd, Nat.reduceLeDiff, true_and, and_true, true_or, or_true, Int.zero_add, Nat.zero_le, eq_self, ne_eq, not_true_eq_false, not_false_eq_true, false_implies, true_implies, implies_true, b2i_0, b2i_1, b2i_01, up_sc, sc_at, sc_sc, ite_true, ite_false, if_true, if_false, Nat.reduceEqDiff, reduceIte, f3, tl]
        repeat' (first | intro _ | refine And.intro ?_ ?_)
        all_goals first | omega | exact pt
      · have hK := hK1 σ1 0 c F ⟨y, rfl, rfl⟩ (c46_4 f1) (fun j j4 j7 j8 => f2 j j7) hS1
        simp only [s25_4, s25_5, s25_8, s25_9, s25_12, s25_15, s25_18, s25_19, s25_22, s25_23, s16_41, s16_59, s16_60, Int.reduceToNat, Int.reducePow, Nat.reducePow, Int.reduceLE, Int.reduceLT, Int.reduceNeg, Int.reduceEq, Int.reduceNe, Int.reduceAdd, Int.reduceSub, Int.reduceMul, and_self, sx_push, tf, List.length_cons, List.length_nil, Option.some.injEq, exists_eq_left', Nat.reduceAdd, Nat.reduceLeDiff, true_and, and_true, true_or, or_true, Int.zero_add, Nat.zero_le, eq_self, ne_eq, not_true_eq_false, not_false_eq_true, false_implies, true_implies, implies_true, b2i_0, b2i_1, b2i_01, up_sc, sc_at, sc_sc, ite_true, ite_false, if_true, if_false, Nat.reduceEqDiff, reduceIte, f3, tl]
        repeat' (first | intro _ | refine And.intro ?_ ?_)
        all_goals first | omega | exact hK
    rw [s16_31]
    simp only [s16_32, s16_34, s16_37, s16_38, s25_0, s25_1, Int.reduceToNat, Int.reducePow, Nat.reducePow, Int.reduceLE, Int.reduceLT, Int.reduceNeg, Int.reduceEq, Int.reduceNe, Int.reduceAdd, Int.reduceSub, Int.reduceMul, and_self, sx_push, tf, List.length_cons, List.length_nil, Option.some.injEq, exists_eq_left', Nat.reduceAdd, Nat.reduceLeDiff, true_and, and_true, true_or, or_true, Int.zero_add, Nat.zero_le, eq_self, ne_eq, not_true_eq_false, not_false_eq_true, false_implies, true_implies, implies_true, b2i_0, b2i_1, b2i_01, up_sc, sc_at, sc_sc, ite_true, ite_false, if_true, if_false, Nat.reduceEqDiff, reduceIte]
    repeat' (first | intro _ | refine And.intro ?_ ?_)
    all_goals first | omega | exact go
  | succ k ih =>
    intro c a F σ hc h ha a0 a1 hS hK1 hK0
    have h2 := h.2.1
    have sk := skF_in (t := t) (L := L) 1600 a a0 a1 (by omega)
    have s2 := hS.2.1
    have go : Rn 19 0 [some (vR 4)] [] (T0 n) σ (fun r T' σ' => Rn 25 4 [some (vR 4)] (sx_push r []) T' σ' (fun r T' σ' => Rn 16 41 [some (vR 4), some (vI c)] (sx_push r []) T' σ' K)) := by
      refine x19 1600 a σ h ha a0 a1 (by omega) ?_
      have f1 : c4 σ (sc σ 4 (up1 (σ 4) 7 (skF t L 1600 a))) := fun q hq => by rw [sc_at, if_neg hq]
      have f2 : ∀ j, j ≠ 7 → sc σ 4 (up1 (σ 4) 7 (skF t L 1600 a)) 4 j = σ 4 j := fun j j7 => by rw [sc_at, if_pos rfl, up1_n j7]
      have f3 : sc σ 4 (up1 (σ 4) 7 (skF t L 1600 a)) 4 7 = skF t L 1600 a := by rw [sc_at, if_pos rfl, up1_s]
      generalize sc σ 4 (up1 (σ 4) 7 (skF t L 1600 a)) = σ1 at *
      have t1 := c4_tp h f1
      have tl := t1.1
      have hS1 : cSt σ1 c F := cSt_4 hS (f2 4 (by decide)) (f1 5 (by decide)) (f1 6 (by decide))
      by_cases y : skF t L 1600 a < L
      · have pt : Rn 26 0 [some (vR 4)] [] (T0 n) σ1 (fun r T' σ' => Rn 16 48 [some (vR 4), some (vI c)] (sx_push r []) T' σ' K) := by
          refine x26 t1 f3 (by omega) (by omega) sk.2.1 hS1 (fun σ2 F' e g1 g2 g3 g4 g5 g6 => ?_) (fun σ2 k p g1 g2 g3 g4 g5 => ?_)
          · have hc1 := g1.1
            have nx := ih (c + 1) e F' σ2 (by omega) (c46_tp t1 g2) g4 (by omega) (by omega) g6 (fun σ3 m c' F'' r1 r2 r3 r4 => hK1 σ3 (m + 1) c' F'' ⟨y, F', e, g1, r1⟩ (c46_tr (c46_tr (c46_4 f1) g2) r2) (fun j j4 j7 j8 => by rw [r3 j j4 j7 j8, g3 j j4 j7 j8, f2 j j7]) r4) (fun σ3 m k p r1 r2 r3 r4 r5 => hK0 σ3 (m + 1) k p ⟨y, F', e, g1, r1⟩ (c46_tr (c46_tr (c46_4 f1) g2) r2) (by rw [r3, g3 3 (by decide) (by decide) (by decide), f2 3 (by decide)]) r4 r5)
            simp only [s16_48, s16_53, s16_56, Int.reduceToNat, Int.reducePow, Nat.reducePow, Int.reduceLE, Int.reduceLT, Int.reduceNeg, Int.reduceEq, Int.reduceNe, Int.reduceAdd, Int.reduceSub, Int.reduceMul, and_self, sx_push, tf, List.length_cons, List.length_nil, Option.some.injEq, exists_eq_left', Nat.reduceAdd, Nat.reduceLeDiff, true_and, and_true, true_or, or_true, Int.zero_add, Nat.zero_le, eq_self, ne_eq, not_true_eq_false, not_false_eq_true, false_implies, true_implies, implies_true, b2i_0, b2i_1, b2i_01, up_sc, sc_at, sc_sc, ite_true, ite_false, if_true, if_false, Nat.reduceEqDiff, reduceIte]
            repeat' (first | intro _ | refine And.intro ?_ ?_)
            all_goals first | omega | exact nx
          · have hK := hK0 σ2 0 k p ⟨y, g1⟩ (c46_tr (c46_4 f1) g2) (by rw [g3, f2 3 (by decide)]) g4 g5
            simp only [s16_48, s16_51, s16_52, Int.reduceToNat, Int.reducePow, Nat.reducePow, Int.reduceLE, Int.reduceLT, Int.reduceNeg, Int.reduceEq, Int.reduceNe, Int.reduceAdd, Int.reduceSub, Int.reduceMul, and_self, sx_push, tf, List.length_cons, List.length_nil, Option.some.injEq, exists_eq_left', Nat.reduceAdd, Nat.reduceLeDiff, true_and, and_true, true_or, or_true, Int.zero_add, Nat.zero_le, eq_self, ne_eq, not_true_eq_false, not_false_eq_true, false_implies, true_implies, implies_true, b2i_0, b2i_1, b2i_01, up_sc, sc_at, sc_sc, ite_true, ite_false, if_true, if_false, Nat.reduceEqDiff, reduceIte]
            repeat' (first | intro _ | refine And.intro ?_ ?_)
            all_goals first | omega | exact hK
        simp only [s25_4, s25_5, s25_8, s25_9, s25_12, s25_15, s25_18, s25_19, s25_22, s25_23, s16_41, s16_44, s16_45, Int.reduceToNat, Int.reducePow, Nat.reducePow, Int.reduceLE, Int.reduceLT, Int.reduceNeg, Int.reduceEq, Int.reduceNe, Int.reduceAdd, Int.reduceSub, Int.reduceMul, and_self, sx_push, tf, List.length_cons, List.length_nil, Option.some.injEq, exists_eq_left', Nat.reduceAdd, Nat.reduceLeDiff, true_and, and_true, true_or, or_true, Int.zero_add, Nat.zero_le, eq_self, ne_eq, not_true_eq_false, not_false_eq_true, false_implies, true_implies, implies_true, b2i_0, b2i_1, b2i_01, up_sc, sc_at, sc_sc, ite_true, ite_false, if_true, if_false, Nat.reduceEqDiff, reduceIte, f3, tl]
        repeat' (first | intro _ | refine And.intro ?_ ?_)
        all_goals first | omega | exact pt
      · have hK := hK1 σ1 0 c F ⟨y, rfl, rfl⟩ (c46_4 f1) (fun j j4 j7 j8 => f2 j j7) hS1
        simp only [s25_4, s25_5, s25_8, s25_9, s25_12, s25_15, s25_18, s25_19, s25_22, s25_23, s16_41, s16_59, s16_60, Int.reduceToNat, Int.reducePow, Nat.reducePow, Int.reduceLE, Int.reduceLT, Int.reduceNeg, Int.reduceEq, Int.reduceNe, Int.reduceAdd, Int.reduceSub, Int.reduceMul, and_self, sx_push, tf, List.length_cons, List.length_nil, Option.some.injEq, exists_eq_left', Nat.reduceAdd, Nat.reduceLeDiff, true_and, and_true, true_or, or_true, Int.zero_add, Nat.zero_le, eq_self, ne_eq, not_true_eq_false, not_false_eq_true, false_implies, true_implies, implies_true, b2i_0, b2i_1, b2i_01, up_sc, sc_at, sc_sc, ite_true, ite_false, if_true, if_false, Nat.reduceEqDiff, reduceIte, f3, tl]
        repeat' (first | intro _ | refine And.intro ?_ ?_)
        all_goals first | omega | exact hK
    rw [s16_31]
    simp only [s16_32, s16_34, s16_37, s16_38, s25_0, s25_1, Int.reduceToNat, Int.reducePow, Nat.reducePow, Int.reduceLE, Int.reduceLT, Int.reduceNeg, Int.reduceEq, Int.reduceNe, Int.reduceAdd, Int.reduceSub, Int.reduceMul, and_self, sx_push, tf, List.length_cons, List.length_nil, Option.some.injEq, exists_eq_left', Nat.reduceAdd, Nat.reduceLeDiff, true_and, and_true, true_or, or_true, Int.zero_add, Nat.zero_le, eq_self, ne_eq, not_true_eq_false, not_false_eq_true, false_implies, true_implies, implies_true, b2i_0, b2i_1, b2i_01, up_sc, sc_at, sc_sc, ite_true, ite_false, if_true, if_false, Nat.reduceEqDiff, reduceIte]
    repeat' (first | intro _ | refine And.intro ?_ ?_)
    all_goals first | omega | exact go
theorem cSt_0 {σ : sxS} (h : σ 4 4 = 0) : cSt σ 0 (fun _ => 0) := ⟨h, by omega, fun q q0 q1 => by omega⟩
theorem x16 (h : tpOk σ t L) (hK1 : ∀ σ' ms e m c' F', mrG t L ms e → psG t L m 0 (fun _ => 0) e c' F' → c46 σ σ' → cSt σ' c' F' → σ' 4 3 = ms → σ' 4 5 = 0 → σ' 4 6 = -1 → K (some (vI 1)) (T0 n) σ') (hK0 : ∀ σ' k p, ((k = 1 ∧ mrB t L p) ∨ ∃ ms e m, mrG t L ms e ∧ psB t L m 0 (fun _ => 0) e k p) → c46 σ σ' → σ' 4 5 = k → σ' 4 6 = p → K (some (vI 0)) (T0 n) σ') : Rn 16 0 [some (vR 4), none] [] (T0 n) σ K := by
  have h2 := h.2.1
  have f1 : c4 σ (sc σ 4 (up1 (up1 (up1 (up1 (σ 4) 7 0) 4 0) 5 0) 6 (-1))) := fun q hq => by rw [sc_at, if_neg hq]
  have f4 : sc σ 4 (up1 (up1 (up1 (up1 (σ 4) 7 0) 4 0) 5 0) 6 (-1)) 4 4 = 0 := by rw [sc_at, if_pos rfl, up1_n (by decide), up1_n (by decide), up1_s]
  have f5 : sc σ 4 (up1 (up1 (up1 (up1 (σ 4) 7 0) 4 0) 5 0) 6 (-1)) 4 5 = 0 := by rw [sc_at, if_pos rfl, up1_n (by decide), up1_s]
  have f6 : sc σ 4 (up1 (up1 (up1 (up1 (σ 4) 7 0) 4 0) 5 0) 6 (-1)) 4 6 = -1 := by rw [sc_at, if_pos rfl, up1_s]
  have f7 : sc σ 4 (up1 (up1 (up1 (up1 (σ 4) 7 0) 4 0) 5 0) 6 (-1)) 4 7 = 0 := by rw [sc_at, if_pos rfl, up1_n (by decide), up1_n (by decide), up1_n (by decide), up1_s]
  have go : Rn 17 0 [some (vR 4)] [] (T0 n) (sc σ 4 (up1 (up1 (up1 (up1 (σ 4) 7 0) 4 0) 5 0) 6 (-1))) (fun r T' σ' => Rn 16 24 [some (vR 4), none] (sx_push r []) T' σ' K) := by
    generalize sc σ 4 (up1 (up1 (up1 (up1 (σ 4) 7 0) 4 0) 5 0) 6 (-1)) = σ1 at *
    have t1 := c4_tp h f1
    refine x17 t1 f7 (fun σ2 ms e g1 g2 g3 g4 g5 g6 => ?_) (fun σ2 p g1 g2 g3 g4 => ?_)
    · have t2 := c4_tp t1 g2
      have fin : Rn 16 31 [some (vR 4), some (vI 0)] [] (T0 n) σ2 K := by
        refine x16l 40 0 e (fun _ => 0) σ2 (by omega) t2 g5 (by omega) (by omega) (cSt_0 (by rw [g3 4 (by decide) (by decide), f4])) (fun σ3 m c' F' r1 r2 r3 r4 => ?_) (fun σ3 m k p r1 r2 r3 r4 r5 => ?_)
        · exact hK1 σ3 ms e m c' F' g1 r1 (c46_tr (c46_tr (c46_4 f1) (c46_4 g2)) r2) r4 (by rw [r3 3 (by decide) (by decide) (by decide), g4]) (by rw [r3 5 (by decide) (by decide) (by decide), g3 5 (by decide) (by decide), f5]) (by rw [r3 6 (by decide) (by decide) (by decide), g3 6 (by decide) (by decide), f6])
        · exact hK0 σ3 k p (Or.inr ⟨ms, e, m, g1, r1⟩) (c46_tr (c46_tr (c46_4 f1) (c46_4 g2)) r2) r4 r5
      simp only [s16_24, s16_29, s16_30, Int.reduceToNat, Int.reducePow, Nat.reducePow, Int.reduceLE, Int.reduceLT, Int.reduceNeg, Int.reduceEq, Int.reduceNe, Int.reduceAdd, Int.reduceSub, Int.reduceMul, and_self, sx_push, tf, List.length_cons, List.length_nil, Option.some.injEq, exists_eq_left', Nat.reduceAdd, Nat.reduceLeDiff, true_and, and_true, true_or, or_true, Int.zero_add, Nat.zero_le, eq_self, ne_eq, not_true_eq_false, not_false_eq_true, false_implies, true_implies, implies_true, b2i_0, b2i_1, b2i_01, up_sc, sc_at, sc_sc, ite_true, ite_false, if_true, if_false, Nat.reduceEqDiff, reduceIte]
      repeat' (first | intro _ | refine And.intro ?_ ?_)
      all_goals first | omega | exact fin
    · have hK := hK0 σ2 1 p (Or.inl ⟨rfl, g1⟩) (c46_tr (c46_4 f1) (c46_4 g2)) g3 g4
      simp only [s16_24, s16_27, s16_28, Int.reduceToNat, Int.reducePow, Nat.reducePow, Int.reduceLE, Int.reduceLT, Int.reduceNeg, Int.reduceEq, Int.reduceNe, Int.reduceAdd, Int.reduceSub, Int.reduceMul, and_self, sx_push, tf, List.length_cons, List.length_nil, Option.some.injEq, exists_eq_left', Nat.reduceAdd, Nat.reduceLeDiff, true_and, and_true, true_or, or_true, Int.zero_add, Nat.zero_le, eq_self, ne_eq, not_true_eq_false, not_false_eq_true, false_implies, true_implies, implies_true, b2i_0, b2i_1, b2i_01, up_sc, sc_at, sc_sc, ite_true, ite_false, if_true, if_false, Nat.reduceEqDiff, reduceIte]
      repeat' (first | intro _ | refine And.intro ?_ ?_)
      all_goals first | omega | exact hK
  simp only [s16_0, s16_1, s16_2, s16_5, s16_6, s16_7, s16_10, s16_11, s16_12, s16_15, s16_16, s16_17, s16_20, s16_21, Int.reduceToNat, Int.reducePow, Nat.reducePow, Int.reduceLE, Int.reduceLT, Int.reduceNeg, Int.reduceEq, Int.reduceNe, Int.reduceAdd, Int.reduceSub, Int.reduceMul, and_self, sx_push, tf, List.length_cons, List.length_nil, Option.some.injEq, exists_eq_left', Nat.reduceAdd, Nat.reduceLeDiff, true_and, and_true, true_or, or_true, Int.zero_add, Nat.zero_le, eq_self, ne_eq, not_true_eq_false, not_false_eq_true, false_implies, true_implies, implies_true, b2i_0, b2i_1, b2i_01, up_sc, sc_at, sc_sc, ite_true, ite_false, if_true, if_false, Nat.reduceEqDiff, reduceIte]
  repeat' (first | intro _ | refine And.intro ?_ ?_)
  all_goals first | omega | exact go
end SA
