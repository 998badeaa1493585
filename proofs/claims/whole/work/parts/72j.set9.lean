/-! a text: places, points, all: the class -/
def plSt (F : Int → Int) (c x y z : Int) : Int → Int := fun j => if j = 40 + c then x else if j = 80 + c then y else if j = 120 + c then z else F j
theorem plSt_o {F : Int → Int} {c x y z j : Int} (h : j ≠ 40 + c ∧ j ≠ 80 + c ∧ j ≠ 120 + c) : plSt F c x y z j = F j := by
  unfold plSt; rw [if_neg h.1, if_neg h.2.1, if_neg h.2.2]
theorem plSt_x {F : Int → Int} {c x y z : Int} : plSt F c x y z (40 + c) = x := by
  unfold plSt; rw [if_pos rfl]
theorem plSt_y {F : Int → Int} {c x y z : Int} : plSt F c x y z (80 + c) = y := by
  unfold plSt; rw [if_neg (by omega), if_pos rfl]
theorem plSt_z {F : Int → Int} {c x y z : Int} : plSt F c x y z (120 + c) = z := by
  unfold plSt; rw [if_neg (by omega), if_neg (by omega), if_pos rfl]
theorem plSt_nm {F : Int → Int} {c x y z q : Int} (c1 : c < 40) (q0 : 0 ≤ q) : nmF (plSt F c x y z) q = nmF F q := by
  unfold nmF
  rw [plSt_o (by omega), plSt_o (by omega), plSt_o (by omega), plSt_o (by omega), plSt_o (by omega), plSt_o (by omega)]
def plG (t : Int → Int) (L c : Int) (F : Int → Int) (a : Int) (F' : Int → Int) (e : Int) : Prop := ∃ x y z e1 e2, numG t L a x e1 ∧ numG t L e1 y e2 ∧ numG t L e2 z e ∧ (∀ q, 0 ≤ q → q < c → ¬ (F (40 + q) = x ∧ F (80 + q) = y ∧ F (120 + q) = z)) ∧ F' = plSt F c x y z
def plB (t : Int → Int) (L c : Int) (F : Int → Int) (a k p : Int) : Prop := numB t L a k p ∨ ∃ x e1, numG t L a x e1 ∧ (numB t L e1 k p ∨ ∃ y e2, numG t L e1 y e2 ∧ (numB t L e2 k p ∨ ∃ z e, numG t L e2 z e ∧ (∃ q, 0 ≤ q ∧ q < c ∧ F (40 + q) = x ∧ F (80 + q) = y ∧ F (120 + q) = z) ∧ k = 4 ∧ p = skF t L 1600 a))
theorem numG_in {t : Int → Int} {L a v e : Int} (hL : L ≤ 1600) (a0 : 0 ≤ a) (a1 : a ≤ L) (h : numG t L a v e) : (a < e ∧ e ≤ L) ∧ dgt (bt t L (e - 1)) := by
  have sk := (skF_in (t := t) (L := L) 1600 a a0 a1 (by omega)).1
  unfold numG at h
  generalize skF t L 1600 a = s at *
  obtain ⟨h1, h2, h3, h4, h5⟩ := h
  rcases h5 with ⟨rfl, _⟩ | ⟨d1, rfl, _⟩ | ⟨d1, d2', rfl, _⟩
  · have := bt_dg h2 (by omega)
    rw [show s + 1 - 1 = s by omega]
    exact ⟨by omega, h2⟩
  · have := bt_dg d1 (by omega)
    rw [show s + 2 - 1 = s + 1 by omega]
    exact ⟨by omega, d1⟩
  · have := bt_dg d2' (by omega)
    rw [show s + 3 - 1 = s + 2 by omega]
    exact ⟨by omega, d2'⟩
theorem numG_v {t : Int → Int} {L a v e : Int} (h : numG t L a v e) : in8 v := h.2.2.1
/-- a point at a, which is no blank -/
def ptG (t : Int → Int) (L c : Int) (F : Int → Int) (a : Int) (F' : Int → Int) (e : Int) : Prop := c < 40 ∧ spJ t L (sx_str 5) a = true ∧ ∃ F1 e1, nmG t L c F (a + 5) F1 e1 ∧ spJ t L (sx_str 6) (skF t L 1600 e1) = true ∧ ∃ e2, plG t L c F1 (skF t L 1600 e1 + 2) F' e2 ∧ bt t L (skF t L 1600 e2) = 59 ∧ e = skF t L 1600 e2 + 1
def ptZ (t : Int → Int) (L c : Int) (F : Int → Int) (a k p : Int) : Prop := (¬ spJ t L (sx_str 5) a = true ∧ k = 1 ∧ p = a) ∨ (spJ t L (sx_str 5) a = true ∧ ((c = 40 ∧ k = 5 ∧ p = a) ∨ (c < 40 ∧ (nmB t L c F (a + 5) k p ∨ ∃ F1 e1, nmG t L c F (a + 5) F1 e1 ∧ ((¬ spJ t L (sx_str 6) (skF t L 1600 e1) = true ∧ k = 1 ∧ p = skF t L 1600 e1) ∨ (spJ t L (sx_str 6) (skF t L 1600 e1) = true ∧ (plB t L c F1 (skF t L 1600 e1 + 2) k p ∨ ∃ F' e2, plG t L c F1 (skF t L 1600 e1 + 2) F' e2 ∧ bt t L (skF t L 1600 e2) ≠ 59 ∧ k = 1 ∧ p = skF t L 1600 e2)))))))
theorem spJ_in {t : Int → Int} {L a : Int} {j : Nat} (hj : j < 7) (hL : L ≤ 1600) (a0 : 0 ≤ a) (a1 : a ≤ L) (h : spJ t L (sx_str j) a = true) : a + (sx_str j).length ≤ L ∧ ¬ sml (bt t L (a + (sx_str j).length)) := by
  have e := spJ_len _ 1600 a (str_al hj) a0 a1 (by omega) h
  obtain ⟨l1, l2, l3⟩ := ltF_in (t := t) (L := L) 1600 a a0 a1 (by omega)
  rw [e] at l1 l3
  exact ⟨l1.2, l3⟩
theorem nmG_in {t : Int → Int} {L c a e : Int} {F F' : Int → Int} (hL : L ≤ 1600) (a0 : 0 ≤ a) (a1 : a ≤ L) (h : nmG t L c F a F' e) : (a ≤ e ∧ e ≤ L) ∧ ¬ sml (bt t L e) := by
  have sk := (skF_in (t := t) (L := L) 1600 a a0 a1 (by omega)).1
  obtain ⟨h1, h2, h3, h4, h5⟩ := h
  obtain ⟨l1, l2, l3⟩ := ltF_in (t := t) (L := L) 1600 (skF t L 1600 a) (by omega) (by omega) (by omega)
  rw [← h3] at l1 l3
  exact ⟨by omega, l3⟩
section S9
variable {n : Nat} {σ : sxS} {K : Option sxV → sxT → sxS → Prop} {t : Int → Int} {L : Int}
theorem plc_in {x y z : Int} (hx : in8 x) (hy : in8 y) (hz : in8 z) : plc x y z = pk x y z := by
  unfold plc; rw [if_pos ⟨hx, hy, hz⟩]
theorem x30 (h : tpOk σ t L) {a c : Int} {F : Int → Int} (ha : σ 4 7 = a) (a0 : 0 ≤ a) (a1 : a ≤ L) (hc : σ 4 4 = c) (c0 : 0 ≤ c) (c1 : c < 40) (hS : ∀ q, 0 ≤ q → q < c → σ 5 q = pk (F (40 + q)) (F (80 + q)) (F (120 + q)) ∧ in8 (F (40 + q)) ∧ in8 (F (80 + q)) ∧ in8 (F (120 + q))) (hK1 : ∀ σ' F' e, plG t L c F a F' e → c46 σ σ' → σ' 6 = σ 6 → (∀ j, j ≠ 7 → j ≠ 8 → σ' 4 j = σ 4 j) → σ' 4 7 = e → (∀ q, 0 ≤ q → q ≤ c → σ' 5 q = pk (F' (40 + q)) (F' (80 + q)) (F' (120 + q)) ∧ in8 (F' (40 + q)) ∧ in8 (F' (80 + q)) ∧ in8 (F' (120 + q))) → K (some (vI 1)) (T0 n) σ') (hK0 : ∀ σ' k p, plB t L c F a k p → c46 σ σ' → (∀ j, j ≠ 5 → j ≠ 6 → j ≠ 7 → j ≠ 8 → σ' 4 j = σ 4 j) → σ' 4 5 = k → σ' 4 6 = p → K (some (vI 0)) (T0 n) σ') : Rn 30 0 [some (vR 4), none, none, none, none, none] [] (T0 n) σ K := by
  have h2 := h.2.1
  unfold plG at hK1
  unfold plB at hK0
  simp only [s30_0, s30_1, Int.reduceToNat, Int.reducePow, Nat.reducePow, Int.reduceLE, Int.reduceLT, Int.reduceNeg, Int.reduceEq, Int.reduceNe, Int.reduceAdd, Int.reduceSub, Int.reduceMul, and_self, sx_push, tf, List.length_cons, List.length_nil, Option.some.injEq, exists_eq_left', Nat.reduceAdd, Nat.reduceLeDiff, true_and, and_true, true_or, or_true, Int.zero_add, Nat.zero_le, eq_self, ne_eq, not_true_eq_false, not_false_eq_true, false_implies, true_implies, implies_true, b2i_0, b2i_1, b2i_01, up_sc, sc_at, sc_sc, ite_true, ite_false, if_true, if_false, Nat.reduceEqDiff, reduceIte]
  refine x31 h ha a0 a1 (fun σ1 x e1 g1 f1 f2 f3 f4 => ?_) (fun σ1 k p g1 f1 f2 f3 f4 => ?_)
  rotate_left
  · have hK := hK0 σ1 k p (Or.inl g1) (c46_4 f1) f2 f3 f4
    simp only [s30_4, s30_5, s30_6, s30_9, s30_10, s30_11, s30_12, s30_15, s30_16, s30_23, s30_24, s30_25, s30_26, s30_29, s30_30, s30_37, s30_39, s30_41, s30_42, s30_45, s30_46, Int.reduceToNat, Int.reducePow, Nat.reducePow, Int.reduceLE, Int.reduceLT, Int.reduceNeg, Int.reduceEq, Int.reduceNe, Int.reduceAdd, Int.reduceSub, Int.reduceMul, and_self, sx_push, tf, List.length_cons, List.length_nil, Option.some.injEq, exists_eq_left', Nat.reduceAdd, Nat.reduceLeDiff, true_and, and_true, true_or, or_true, Int.zero_add, Nat.zero_le, eq_self, ne_eq, not_true_eq_false, not_false_eq_true, false_implies, true_implies, implies_true, b2i_0, b2i_1, b2i_01, up_sc, sc_at, sc_sc, ite_true, ite_false, if_true, if_false, Nat.reduceEqDiff, reduceIte]
    repeat' (first | intro _ | refine And.intro ?_ ?_)
    all_goals first | omega | exact hK
  have i1 := (numG_in h2.2 a0 a1 g1).1
  have v1 := numG_v g1
  unfold in8 at v1
  have t1 := c4_tp h f1
  have go2 : Rn 31 0 [some (vR 4), none, none, none] [] (T0 n) σ1 (fun r T' σ' => Rn 30 23 [some (vR 4), some (vI x), some (vI (skF t L 1600 a)), none, none, none] (sx_push r []) T' σ' K) := by
    refine x31 t1 f3 (by omega) (by omega) (fun σ2 y e2 g2 k1 k2 k3 k4 => ?_) (fun σ2 k p g2 k1 k2 k3 k4 => ?_)
    rotate_left
    · have hK := hK0 σ2 k p (Or.inr ⟨x, e1, g1, Or.inl g2⟩) (c46_4 (c4_tr f1 k1)) (fun j j5 j6 j7 j8 => by rw [k2 j j5 j6 j7 j8, f2 j j7 j8]) k3 k4
      simp only [s30_23, s30_24, s30_25, s30_26, s30_29, s30_30, s30_37, s30_39, s30_41, s30_42, s30_45, s30_46, Int.reduceToNat, Int.reducePow, Nat.reducePow, Int.reduceLE, Int.reduceLT, Int.reduceNeg, Int.reduceEq, Int.reduceNe, Int.reduceAdd, Int.reduceSub, Int.reduceMul, and_self, sx_push, tf, List.length_cons, List.length_nil, Option.some.injEq, exists_eq_left', Nat.reduceAdd, Nat.reduceLeDiff, true_and, and_true, true_or, or_true, Int.zero_add, Nat.zero_le, eq_self, ne_eq, not_true_eq_false, not_false_eq_true, false_implies, true_implies, implies_true, b2i_0, b2i_1, b2i_01, up_sc, sc_at, sc_sc, ite_true, ite_false, if_true, if_false, Nat.reduceEqDiff, reduceIte]
      repeat' (first | intro _ | refine And.intro ?_ ?_)
      all_goals first | omega | exact hK
    have i2 := (numG_in h2.2 (by omega) (by omega) g2).1
    have v2 := numG_v g2
    unfold in8 at v2
    have t2 := c4_tp t1 k1
    have go3 : Rn 31 0 [some (vR 4), none, none, none] [] (T0 n) σ2 (fun r T' σ' => Rn 30 37 [some (vR 4), some (vI x), some (vI (skF t L 1600 a)), some (vI y), none, none] (sx_push r []) T' σ' K) := by
      refine x31 t2 k3 (by omega) (by omega) (fun σ3 z e3 g3 m1 m2 m3 m4 => ?_) (fun σ3 k p g3 m1 m2 m3 m4 => ?_)
      rotate_left
      · have hK := hK0 σ3 k p (Or.inr ⟨x, e1, g1, Or.inr ⟨y, e2, g2, Or.inl g3⟩⟩) (c46_4 (c4_tr (c4_tr f1 k1) m1)) (fun j j5 j6 j7 j8 => by rw [m2 j j5 j6 j7 j8, k2 j j7 j8, f2 j j7 j8]) m3 m4
        simp only [s30_37, s30_39, s30_41, s30_42, s30_45, s30_46, Int.reduceToNat, Int.reducePow, Nat.reducePow, Int.reduceLE, Int.reduceLT, Int.reduceNeg, Int.reduceEq, Int.reduceNe, Int.reduceAdd, Int.reduceSub, Int.reduceMul, and_self, sx_push, tf, List.length_cons, List.length_nil, Option.some.injEq, exists_eq_left', Nat.reduceAdd, Nat.reduceLeDiff, true_and, and_true, true_or, or_true, Int.zero_add, Nat.zero_le, eq_self, ne_eq, not_true_eq_false, not_false_eq_true, false_implies, true_implies, implies_true, b2i_0, b2i_1, b2i_01, up_sc, sc_at, sc_sc, ite_true, ite_false, if_true, if_false, Nat.reduceEqDiff, reduceIte]
        repeat' (first | intro _ | refine And.intro ?_ ?_)
        all_goals first | omega | exact hK
      have v3 := numG_v g3
      unfold in8 at v3
      have fc : c4 σ σ3 := c4_tr (c4_tr f1 k1) m1
      have fj : ∀ j, j ≠ 7 → j ≠ 8 → σ3 4 j = σ 4 j := fun j j7 j8 => by rw [m2 j j7 j8, k2 j j7 j8, f2 j j7 j8]
      have q4 : σ3 4 4 = c := by rw [fj 4 (by decide) (by decide), hc]
      have q5 : σ3 5 = σ 5 := fc 5 (by decide)
      have am : Rn 29 2 [some (vR 4), some (vR 5), some (vI (pk x y z)), some (vI 0)] [] (T0 n) σ3 (fun r T' σ' => Rn 30 66 [some (vR 4), some (vI x), some (vI (skF t L 1600 a)), some (vI y), some (vI z), some (vI (pk x y z))] (sx_push r []) T' σ' K) := by
        refine x29 (Or.inl rfl) q4 (by omega) (fun w => ?_) (fun w => ?_) 40 0 (by omega) (by omega) (fun j j0 j1 => by omega)
        · obtain ⟨i, i0, i1, i2⟩ := w
          obtain ⟨b1, b2, b3, b4⟩ := hS i i0 i1
          rw [q5, b1, pk_inj b2 b3 b4 v1 v2 v3] at i2
          have hK := hK0 (sc σ3 4 (up1 (up1 (σ3 4) 5 4) 6 (skF t L 1600 a))) 4 (skF t L 1600 a) (Or.inr ⟨x, e1, g1, Or.inr ⟨y, e2, g2, Or.inr ⟨z, e3, g3, ⟨i, i0, i1, i2⟩, rfl, rfl⟩⟩⟩) (c46_4 (c4_tr fc (fun q hq => by rw [sc_at, if_neg hq]))) (fun j j5 j6 j7 j8 => by rw [sc_at, if_pos rfl, up1_n j6, up1_n j5, fj j j7 j8]) (by rw [sc_at, if_pos rfl, up1_n (by decide), up1_s]) (by rw [sc_at, if_pos rfl, up1_s])
          simp only [s30_66, s30_69, s30_70, s30_71, s30_72, s30_75, Int.reduceToNat, Int.reducePow, Nat.reducePow, Int.reduceLE, Int.reduceLT, Int.reduceNeg, Int.reduceEq, Int.reduceNe, Int.reduceAdd, Int.reduceSub, Int.reduceMul, and_self, sx_push, tf, List.length_cons, List.length_nil, Option.some.injEq, exists_eq_left', Nat.reduceAdd, Nat.reduceLeDiff, true_and, and_true, true_or, or_true, Int.zero_add, Nat.zero_le, eq_self, ne_eq, not_true_eq_false, not_false_eq_true, false_implies, true_implies, implies_true, b2i_0, b2i_1, b2i_01, up_sc, sc_at, sc_sc, ite_true, ite_false, if_true, if_false, Nat.reduceEqDiff, reduceIte, x23]
          first | exact hK | (repeat' (first | intro _ | refine And.intro ?_ ?_) <;> first | omega | exact hK)
        · have hK := hK1 (sc σ3 5 (up1 (σ3 5) c (pk x y z))) (plSt F c x y z) e3 ⟨x, y, z, e1, e2, g1, g2, g3, fun q q0 q1 u => by
            obtain ⟨b1, b2, b3, b4⟩ := hS q q0 q1
            exact w q q0 q1 (by rw [q5, b1, u.1, u.2.1, u.2.2]), rfl⟩ (fun q k4 k5 k6 => by rw [sc_at, if_neg k5, fc q k4]) (by rw [sc_at, if_neg (by decide), fc 6 (by decide)]) (fun j j7 j8 => by rw [sc_at, if_neg (by decide), fj j j7 j8]) (by rw [sc_at, if_neg (by decide), m3]) (fun q q0 q1 => by
              rw [sc_at, if_pos rfl]
              by_cases y2 : q = c
              · rw [y2, up1_s, plSt_x, plSt_y, plSt_z]; exact ⟨rfl, v1, v2, v3⟩
              · rw [up1_n y2, plSt_o (by omega), plSt_o (by omega), plSt_o (by omega), q5]; exact hS q q0 (by omega))
          simp only [s30_66, s30_76, s30_77, s30_80, s30_81, s30_84, s30_86, s30_87, s30_88, Int.reduceToNat, Int.reducePow, Nat.reducePow, Int.reduceLE, Int.reduceLT, Int.reduceNeg, Int.reduceEq, Int.reduceNe, Int.reduceAdd, Int.reduceSub, Int.reduceMul, and_self, sx_push, tf, List.length_cons, List.length_nil, Option.some.injEq, exists_eq_left', Nat.reduceAdd, Nat.reduceLeDiff, true_and, and_true, true_or, or_true, Int.zero_add, Nat.zero_le, eq_self, ne_eq, not_true_eq_false, not_false_eq_true, false_implies, true_implies, implies_true, b2i_0, b2i_1, b2i_01, up_sc, sc_at, sc_sc, ite_true, ite_false, if_true, if_false, Nat.reduceEqDiff, reduceIte, q4]
          repeat' (first | intro _ | refine And.intro ?_ ?_)
          all_goals first | omega | exact hK
      simp only [s30_37, s30_39, s30_41, s30_42, s30_47, s30_48, s30_49, s30_51, s30_54, s30_56, s30_57, s30_58, s30_61, s30_63, Int.reduceToNat, Int.reducePow, Nat.reducePow, Int.reduceLE, Int.reduceLT, Int.reduceNeg, Int.reduceEq, Int.reduceNe, Int.reduceAdd, Int.reduceSub, Int.reduceMul, and_self, sx_push, tf, List.length_cons, List.length_nil, Option.some.injEq, exists_eq_left', Nat.reduceAdd, Nat.reduceLeDiff, true_and, and_true, true_or, or_true, Int.zero_add, Nat.zero_le, eq_self, ne_eq, not_true_eq_false, not_false_eq_true, false_implies, true_implies, implies_true, b2i_0, b2i_1, b2i_01, up_sc, sc_at, sc_sc, ite_true, ite_false, if_true, if_false, Nat.reduceEqDiff, reduceIte, x33, plc_in v1 v2 v3]
      simp only [s29_0, s29_1, Int.reduceToNat, Int.reducePow, Nat.reducePow, Int.reduceLE, Int.reduceLT, Int.reduceNeg, Int.reduceEq, Int.reduceNe, Int.reduceAdd, Int.reduceSub, Int.reduceMul, and_self, sx_push, tf, List.length_cons, List.length_nil, Option.some.injEq, exists_eq_left', Nat.reduceAdd, Nat.reduceLeDiff, true_and, and_true, true_or, or_true, Int.zero_add, Nat.zero_le, eq_self, ne_eq, not_true_eq_false, not_false_eq_true, false_implies, true_implies, implies_true, b2i_0, b2i_1, b2i_01, up_sc, sc_at, sc_sc, ite_true, ite_false, if_true, if_false, Nat.reduceEqDiff, reduceIte]
      repeat' (first | intro _ | refine And.intro ?_ ?_)
      all_goals first | omega | exact am
    simp only [s30_23, s30_24, s30_25, s30_26, s30_33, s30_34, Int.reduceToNat, Int.reducePow, Nat.reducePow, Int.reduceLE, Int.reduceLT, Int.reduceNeg, Int.reduceEq, Int.reduceNe, Int.reduceAdd, Int.reduceSub, Int.reduceMul, and_self, sx_push, tf, List.length_cons, List.length_nil, Option.some.injEq, exists_eq_left', Nat.reduceAdd, Nat.reduceLeDiff, true_and, and_true, true_or, or_true, Int.zero_add, Nat.zero_le, eq_self, ne_eq, not_true_eq_false, not_false_eq_true, false_implies, true_implies, implies_true, b2i_0, b2i_1, b2i_01, up_sc, sc_at, sc_sc, ite_true, ite_false, if_true, if_false, Nat.reduceEqDiff, reduceIte]
    repeat' (first | intro _ | refine And.intro ?_ ?_)
    all_goals first | omega | exact go3
  simp only [s30_4, s30_5, s30_6, s30_9, s30_10, s30_11, s30_12, s30_19, s30_20, Int.reduceToNat, Int.reducePow, Nat.reducePow, Int.reduceLE, Int.reduceLT, Int.reduceNeg, Int.reduceEq, Int.reduceNe, Int.reduceAdd, Int.reduceSub, Int.reduceMul, and_self, sx_push, tf, List.length_cons, List.length_nil, Option.some.injEq, exists_eq_left', Nat.reduceAdd, Nat.reduceLeDiff, true_and, and_true, true_or, or_true, Int.zero_add, Nat.zero_le, eq_self, ne_eq, not_true_eq_false, not_false_eq_true, false_implies, true_implies, implies_true, b2i_0, b2i_1, b2i_01, up_sc, sc_at, sc_sc, ite_true, ite_false, if_true, if_false, Nat.reduceEqDiff, reduceIte, f4]
  repeat' (first | intro _ | refine And.intro ?_ ?_)
  all_goals first | omega | exact go2
theorem cSt_4 {σ σ' : sxS} {c : Int} {F : Int → Int} (h : cSt σ c F) (h4 : σ' 4 4 = σ 4 4) (h5 : σ' 5 = σ 5) (h6 : σ' 6 = σ 6) : cSt σ' c F := by
  unfold cSt at h ⊢
  rw [h4, h5, h6]; exact h
theorem x26 (h : tpOk σ t L) {a c : Int} {F : Int → Int} (ha : σ 4 7 = a) (a0 : 0 ≤ a) (a1 : a ≤ L) (hb : ¬ blk (bt t L a)) (hS : cSt σ c F) (hK1 : ∀ σ' F' e, ptG t L c F a F' e → c46 σ σ' → (∀ j, j ≠ 4 → j ≠ 7 → j ≠ 8 → σ' 4 j = σ 4 j) → σ' 4 7 = e → (0 ≤ e ∧ e ≤ L) → cSt σ' (c + 1) F' → K (some (vI 1)) (T0 n) σ') (hK0 : ∀ σ' k p, ptZ t L c F a k p → c46 σ σ' → σ' 4 3 = σ 4 3 → σ' 4 5 = k → σ' 4 6 = p → K (some (vI 0)) (T0 n) σ') : Rn 26 0 [some (vR 4)] [] (T0 n) σ K := by
  have h2 := h.2.1
  have sa : skF t L 1600 a = a := skF_skF hb
  unfold ptG at hK1
  unfold ptZ at hK0
  have hS' := hS
  obtain ⟨s1, s2, s3⟩ := hS'
  by_cases e : c = 40
  · have w5 := fun K => x21 (n := n) (σ := σ) h (o := 1000006) (by omega) (by omega) ha a0 (by omega) (W := sx_str 5) rfl (by decide) K
    by_cases y : spJ t L (sx_str 5) a = true
    · have hK := hK0 (sc σ 4 (up1 (up1 (σ 4) 5 5) 6 a)) 5 a (Or.inr ⟨y, Or.inl ⟨e, rfl, rfl⟩⟩) (fun q k4 _ _ => by rw [sc_at, if_neg k4]) (by rw [sc_at, if_pos rfl, up1_n (by decide), up1_n (by decide)]) (by rw [sc_at, if_pos rfl, up1_n (by decide), up1_s]) (by rw [sc_at, if_pos rfl, up1_s])
      simp only [s26_0, s26_1, s26_4, s26_6, s26_9, s26_10, s26_11, s26_13, s26_16, s26_19, s26_20, s26_23, s26_24, s26_25, s26_28, s26_31, Int.reduceToNat, Int.reducePow, Nat.reducePow, Int.reduceLE, Int.reduceLT, Int.reduceNeg, Int.reduceEq, Int.reduceNe, Int.reduceAdd, Int.reduceSub, Int.reduceMul, and_self, sx_push, tf, List.length_cons, List.length_nil, Option.some.injEq, exists_eq_left', Nat.reduceAdd, Nat.reduceLeDiff, true_and, and_true, true_or, or_true, Int.zero_add, Nat.zero_le, eq_self, ne_eq, not_true_eq_false, not_false_eq_true, false_implies, true_implies, implies_true, b2i_0, b2i_1, b2i_01, up_sc, sc_at, sc_sc, ite_true, ite_false, if_true, if_false, Nat.reduceEqDiff, reduceIte, s1, w5, y, x23, ha]
      repeat' (first | intro _ | refine And.intro ?_ ?_)
      all_goals first | omega | contradiction | exact hK
    · have hK := hK0 (sc σ 4 (up1 (up1 (σ 4) 5 1) 6 a)) 1 a (Or.inl ⟨y, rfl, rfl⟩) (fun q k4 _ _ => by rw [sc_at, if_neg k4]) (by rw [sc_at, if_pos rfl, up1_n (by decide), up1_n (by decide)]) (by rw [sc_at, if_pos rfl, up1_n (by decide), up1_s]) (by rw [sc_at, if_pos rfl, up1_s])
      simp only [s26_0, s26_1, s26_4, s26_6, s26_9, s26_10, s26_11, s26_13, s26_16, s26_19, s26_20, s26_23, s26_24, s26_25, s26_28, s26_31, Int.reduceToNat, Int.reducePow, Nat.reducePow, Int.reduceLE, Int.reduceLT, Int.reduceNeg, Int.reduceEq, Int.reduceNe, Int.reduceAdd, Int.reduceSub, Int.reduceMul, and_self, sx_push, tf, List.length_cons, List.length_nil, Option.some.injEq, exists_eq_left', Nat.reduceAdd, Nat.reduceLeDiff, true_and, and_true, true_or, or_true, Int.zero_add, Nat.zero_le, eq_self, ne_eq, not_true_eq_false, not_false_eq_true, false_implies, true_implies, implies_true, b2i_0, b2i_1, b2i_01, up_sc, sc_at, sc_sc, ite_true, ite_false, if_true, if_false, Nat.reduceEqDiff, reduceIte, s1, w5, y, x23, ha]
      repeat' (first | intro _ | refine And.intro ?_ ?_)
      all_goals first | omega | contradiction | exact hK
  · have c1 : c < 40 := by omega
    have go : Rn 18 0 [some (vR 4), some (vR 1000006)] [] (T0 n) σ (fun r T' σ' => Rn 26 38 [some (vR 4)] (sx_push r []) T' σ' K) := by
      refine x18 h (o := 1000006) (by omega) (by omega) ha a0 a1 (W := sx_str 5) rfl (by decide) (fun y => ?_) (fun y => ?_)
      rotate_left
      · rw [sa] at y ⊢
        have hK := hK0 (sc σ 4 (up1 (up1 (up1 (σ 4) 7 a) 5 1) 6 a)) 1 a (Or.inl ⟨y, rfl, rfl⟩) (fun q k4 _ _ => by rw [sc_at, if_neg k4]) (by rw [sc_at, if_pos rfl, up1_n (by decide), up1_n (by decide), up1_n (by decide)]) (by rw [sc_at, if_pos rfl, up1_n (by decide), up1_s]) (by rw [sc_at, if_pos rfl, up1_s])
        simp only [s26_38, s26_71, s26_72, Int.reduceToNat, Int.reducePow, Nat.reducePow, Int.reduceLE, Int.reduceLT, Int.reduceNeg, Int.reduceEq, Int.reduceNe, Int.reduceAdd, Int.reduceSub, Int.reduceMul, and_self, sx_push, tf, List.length_cons, List.length_nil, Option.some.injEq, exists_eq_left', Nat.reduceAdd, Nat.reduceLeDiff, true_and, and_true, true_or, or_true, Int.zero_add, Nat.zero_le, eq_self, ne_eq, not_true_eq_false, not_false_eq_true, false_implies, true_implies, implies_true, b2i_0, b2i_1, b2i_01, up_sc, sc_at, sc_sc, ite_true, ite_false, if_true, if_false, Nat.reduceEqDiff, reduceIte]
        repeat' (first | intro _ | refine And.intro ?_ ?_)
        all_goals first | omega | exact hK
      rw [sa] at y ⊢
      have i0 := spJ_in (j := 5) (by decide) h2.2 a0 a1 y
      rw [show ((sx_str 5).length : Int) = 5 from rfl] at i0 ⊢
      have f1 : c4 σ (sc σ 4 (up1 (σ 4) 7 (a + 5))) := fun q hq => by rw [sc_at, if_neg hq]
      have f2 : ∀ j, j ≠ 7 → sc σ 4 (up1 (σ 4) 7 (a + 5)) 4 j = σ 4 j := fun j j7 => by rw [sc_at, if_pos rfl, up1_n j7]
      have f3 : sc σ 4 (up1 (σ 4) 7 (a + 5)) 4 7 = a + 5 := by rw [sc_at, if_pos rfl, up1_s]
      generalize sc σ 4 (up1 (σ 4) 7 (a + 5)) = σ1 at *
      have t1 := c4_tp h f1
      have go2 : Rn 27 0 [some (vR 4), none, none, none] [] (T0 n) σ1 (fun r T' σ' => Rn 26 45 [some (vR 4)] (sx_push r []) T' σ' K) := by
        refine x27 t1 f3 (by omega) (by omega) (cSt_4 hS (f2 4 (by decide)) (f1 5 (by decide)) (f1 6 (by decide))) c1 (fun σ2 F1 e1 g1 k1 k2 k3 k4 k5 => ?_) (fun σ2 k p g1 k1 k2 k3 k4 => ?_)
        rotate_left
        · have hK := hK0 σ2 k p (Or.inr ⟨y, Or.inr ⟨c1, Or.inl g1⟩⟩) (c46_tr (c46_4 f1) k1) (by rw [k2 3 (by decide) (by decide) (by decide), f2 3 (by decide)]) k3 k4
          simp only [s26_45, s26_71, s26_72, Int.reduceToNat, Int.reducePow, Nat.reducePow, Int.reduceLE, Int.reduceLT, Int.reduceNeg, Int.reduceEq, Int.reduceNe, Int.reduceAdd, Int.reduceSub, Int.reduceMul, and_self, sx_push, tf, List.length_cons, List.length_nil, Option.some.injEq, exists_eq_left', Nat.reduceAdd, Nat.reduceLeDiff, true_and, and_true, true_or, or_true, Int.zero_add, Nat.zero_le, eq_self, ne_eq, not_true_eq_false, not_false_eq_true, false_implies, true_implies, implies_true, b2i_0, b2i_1, b2i_01, up_sc, sc_at, sc_sc, ite_true, ite_false, if_true, if_false, Nat.reduceEqDiff, reduceIte]
          repeat' (first | intro _ | refine And.intro ?_ ?_)
          all_goals first | omega | exact hK
        have i1 := nmG_in h2.2 (by omega) (by omega) g1
        have t2 := c46_tp t1 k1
        have go3 : Rn 18 0 [some (vR 4), some (vR 1000007)] [] (T0 n) σ2 (fun r T' σ' => Rn 26 54 [some (vR 4)] (sx_push r []) T' σ' K) := by
          have sk1 := (skF_in (t := t) (L := L) 1600 e1 (by omega) (by omega) (by omega)).1
          refine x18 t2 (o := 1000007) (by omega) (by omega) k4 (by omega) (by omega) (W := sx_str 6) rfl (by decide) (fun y2 => ?_) (fun y2 => ?_)
          rotate_left
          · have hK := hK0 (sc σ2 4 (up1 (up1 (up1 (σ2 4) 7 (skF t L 1600 e1)) 5 1) 6 (skF t L 1600 e1))) 1 _ (Or.inr ⟨y, Or.inr ⟨c1, Or.inr ⟨F1, e1, g1, Or.inl ⟨y2, rfl, rfl⟩⟩⟩⟩) (fun q q4 q5 q6 => by rw [sc_at, if_neg q4, k1 q q4 q5 q6, f1 q q4]) (by rw [sc_at, if_pos rfl, up1_n (by decide), up1_n (by decide), up1_n (by decide), k3 3 (by decide), f2 3 (by decide)]) (by rw [sc_at, if_pos rfl, up1_n (by decide), up1_s]) (by rw [sc_at, if_pos rfl, up1_s])
            simp only [s26_54, s26_71, s26_72, Int.reduceToNat, Int.reducePow, Nat.reducePow, Int.reduceLE, Int.reduceLT, Int.reduceNeg, Int.reduceEq, Int.reduceNe, Int.reduceAdd, Int.reduceSub, Int.reduceMul, and_self, sx_push, tf, List.length_cons, List.length_nil, Option.some.injEq, exists_eq_left', Nat.reduceAdd, Nat.reduceLeDiff, true_and, and_true, true_or, or_true, Int.zero_add, Nat.zero_le, eq_self, ne_eq, not_true_eq_false, not_false_eq_true, false_implies, true_implies, implies_true, b2i_0, b2i_1, b2i_01, up_sc, sc_at, sc_sc, ite_true, ite_false, if_true, if_false, Nat.reduceEqDiff, reduceIte]
            repeat' (first | intro _ | refine And.intro ?_ ?_)
            all_goals first | omega | exact hK
          have i2 := spJ_in (j := 6) (by decide) h2.2 (by omega) (by omega) y2
          rw [show ((sx_str 6).length : Int) = 2 from rfl] at i2 ⊢
          have m1 : c4 σ2 (sc σ2 4 (up1 (σ2 4) 7 (skF t L 1600 e1 + 2))) := fun q hq => by rw [sc_at, if_neg hq]
          have m2 : ∀ j, j ≠ 7 → sc σ2 4 (up1 (σ2 4) 7 (skF t L 1600 e1 + 2)) 4 j = σ2 4 j := fun j j7 => by rw [sc_at, if_pos rfl, up1_n j7]
          have m3 : sc σ2 4 (up1 (σ2 4) 7 (skF t L 1600 e1 + 2)) 4 7 = skF t L 1600 e1 + 2 := by rw [sc_at, if_pos rfl, up1_s]
          generalize sc σ2 4 (up1 (σ2 4) 7 (skF t L 1600 e1 + 2)) = σ3 at *
          have t3 := c4_tp t2 m1
          have F1o : ∀ j, j < 240 + 6 * c → F1 j = F j := fun j hj => by rw [g1.2.2.2.2.2]; exact nmSt_o (Or.inl hj)
          have go4 : Rn 30 0 [some (vR 4), none, none, none, none, none] [] (T0 n) σ3 (fun r T' σ' => Rn 26 61 [some (vR 4)] (sx_push r []) T' σ' K) := by
            refine x30 t3 m3 (by omega) (by omega) (c := c) (F := F1) (by rw [m2 4 (by decide), k3 4 (by decide), f2 4 (by decide), s1]) s2.1 c1 (fun q q0 q1 => by
              rw [m1 5 (by decide), k2, f1 5 (by decide), F1o _ (by omega), F1o _ (by omega), F1o _ (by omega)]; exact (s3 q q0 q1).2) (fun σ4 F2 e2 g2 p1 p2 p3 p4 p5 => ?_) (fun σ4 k p g2 p1 p2 p3 p4 => ?_)
            rotate_left
            · have hK := hK0 σ4 k p (Or.inr ⟨y, Or.inr ⟨c1, Or.inr ⟨F1, e1, g1, Or.inr ⟨y2, Or.inl g2⟩⟩⟩⟩) (c46_tr (c46_tr (c46_4 f1) k1) (c46_tr (c46_4 m1) p1)) (by rw [p2 3 (by decide) (by decide) (by decide) (by decide), m2 3 (by decide), k3 3 (by decide), f2 3 (by decide)]) p3 p4
              simp only [s26_61, s26_71, s26_72, Int.reduceToNat, Int.reducePow, Nat.reducePow, Int.reduceLE, Int.reduceLT, Int.reduceNeg, Int.reduceEq, Int.reduceNe, Int.reduceAdd, Int.reduceSub, Int.reduceMul, and_self, sx_push, tf, List.length_cons, List.length_nil, Option.some.injEq, exists_eq_left', Nat.reduceAdd, Nat.reduceLeDiff, true_and, and_true, true_or, or_true, Int.zero_add, Nat.zero_le, eq_self, ne_eq, not_true_eq_false, not_false_eq_true, false_implies, true_implies, implies_true, b2i_0, b2i_1, b2i_01, up_sc, sc_at, sc_sc, ite_true, ite_false, if_true, if_false, Nat.reduceEqDiff, reduceIte]
              repeat' (first | intro _ | refine And.intro ?_ ?_)
              all_goals first | omega | exact hK
            have g2' := g2
            obtain ⟨x, yy, z, b1, b2, n1, n2, n3, n4, n5⟩ := g2'
            have j1 := (numG_in h2.2 (by omega) (by omega) n1).1
            have j2 := (numG_in h2.2 (by omega) (by omega) n2).1
            have j3 := (numG_in h2.2 (by omega) (by omega) n3).1
            have sk2 := (skF_in (t := t) (L := L) 1600 e2 (by omega) (by omega) (by omega)).1
            have t4 := c46_tp t3 p1
            have fr : c46 σ σ4 := c46_tr (c46_tr (c46_4 f1) k1) (c46_tr (c46_4 m1) p1)
            have fj : ∀ j, j ≠ 7 → j ≠ 8 → σ4 4 j = σ 4 j := fun j j7 j8 => by rw [p3 j j7 j8, m2 j j7, k3 j j7, f2 j j7]
            have go5 : Rn 24 0 [some (vR 4)] [] (T0 n) σ4 (fun r T' σ' => Rn 26 68 [some (vR 4)] (sx_push r []) T' σ' K) := by
              refine x24 t4 p4 (by omega) (by omega) (fun y3 => ?_) (fun y3 => ?_)
              rotate_left
              · have hK := hK0 (sc σ4 4 (up1 (up1 (up1 (σ4 4) 7 (skF t L 1600 e2)) 5 1) 6 (skF t L 1600 e2))) 1 _ (Or.inr ⟨y, Or.inr ⟨c1, Or.inr ⟨F1, e1, g1, Or.inr ⟨y2, Or.inr ⟨F2, e2, g2, y3, rfl, rfl⟩⟩⟩⟩⟩) (fun q q4 q5 q6 => by rw [sc_at, if_neg q4, fr q q4 q5 q6]) (by rw [sc_at, if_pos rfl, up1_n (by decide), up1_n (by decide), up1_n (by decide), fj 3 (by decide) (by decide)]) (by rw [sc_at, if_pos rfl, up1_n (by decide), up1_s]) (by rw [sc_at, if_pos rfl, up1_s])
                simp only [s26_68, s26_71, s26_72, Int.reduceToNat, Int.reducePow, Nat.reducePow, Int.reduceLE, Int.reduceLT, Int.reduceNeg, Int.reduceEq, Int.reduceNe, Int.reduceAdd, Int.reduceSub, Int.reduceMul, and_self, sx_push, tf, List.length_cons, List.length_nil, Option.some.injEq, exists_eq_left', Nat.reduceAdd, Nat.reduceLeDiff, true_and, and_true, true_or, or_true, Int.zero_add, Nat.zero_le, eq_self, ne_eq, not_true_eq_false, not_false_eq_true, false_implies, true_implies, implies_true, b2i_0, b2i_1, b2i_01, up_sc, sc_at, sc_sc, ite_true, ite_false, if_true, if_false, Nat.reduceEqDiff, reduceIte]
                repeat' (first | intro _ | refine And.intro ?_ ?_)
                all_goals first | omega | exact hK
              have bs : skF t L 1600 e2 < L := by
                apply Classical.byContradiction
                intro w
                rw [bt_out (by omega)] at y3
                omega
              have u4 : up1 (σ4 4) 7 (skF t L 1600 e2 + 1) 4 = c := by rw [up1_n (by decide), fj 4 (by decide) (by decide), s1]
              have hK := hK1 (sc σ4 4 (up1 (up1 (σ4 4) 7 (skF t L 1600 e2 + 1)) 4 (c + 1))) F2 (skF t L 1600 e2 + 1) ⟨c1, y, F1, e1, g1, y2, e2, g2, y3, rfl⟩ (fun q q4 q5 q6 => by rw [sc_at, if_neg q4, fr q q4 q5 q6]) (fun j j4 j7 j8 => by rw [sc_at, if_pos rfl, up1_n j4, up1_n j7, fj j j7 j8]) (by rw [sc_at, if_pos rfl, up1_n (by decide), up1_s]) (by omega) ⟨by rw [sc_at, if_pos rfl, up1_s], by omega, fun q q0 q1 => by
                rw [sc_at, if_neg (by decide), sc_at, if_neg (by decide)]
                refine ⟨?_, p5 q q0 (by omega)⟩
                rw [p2, m1 6 (by decide), k5 q q0 (by omega), n5, plSt_nm c1 q0]⟩
              simp only [s26_68, s26_73, s26_74, s26_75, s26_78, s26_79, s26_80, s26_83, s26_84, Int.reduceToNat, Int.reducePow, Nat.reducePow, Int.reduceLE, Int.reduceLT, Int.reduceNeg, Int.reduceEq, Int.reduceNe, Int.reduceAdd, Int.reduceSub, Int.reduceMul, and_self, sx_push, tf, List.length_cons, List.length_nil, Option.some.injEq, exists_eq_left', Nat.reduceAdd, Nat.reduceLeDiff, true_and, and_true, true_or, or_true, Int.zero_add, Nat.zero_le, eq_self, ne_eq, not_true_eq_false, not_false_eq_true, false_implies, true_implies, implies_true, b2i_0, b2i_1, b2i_01, up_sc, sc_at, sc_sc, ite_true, ite_false, if_true, if_false, Nat.reduceEqDiff, reduceIte, u4]
              repeat' (first | intro _ | refine And.intro ?_ ?_)
              all_goals first | omega | exact hK
            simp only [s26_61, s26_64, s26_65, Int.reduceToNat, Int.reducePow, Nat.reducePow, Int.reduceLE, Int.reduceLT, Int.reduceNeg, Int.reduceEq, Int.reduceNe, Int.reduceAdd, Int.reduceSub, Int.reduceMul, and_self, sx_push, tf, List.length_cons, List.length_nil, Option.some.injEq, exists_eq_left', Nat.reduceAdd, Nat.reduceLeDiff, true_and, and_true, true_or, or_true, Int.zero_add, Nat.zero_le, eq_self, ne_eq, not_true_eq_false, not_false_eq_true, false_implies, true_implies, implies_true, b2i_0, b2i_1, b2i_01, up_sc, sc_at, sc_sc, ite_true, ite_false, if_true, if_false, Nat.reduceEqDiff, reduceIte]
            repeat' (first | intro _ | refine And.intro ?_ ?_)
            all_goals first | omega | exact go5
          simp only [s26_54, s26_57, s26_58, Int.reduceToNat, Int.reducePow, Nat.reducePow, Int.reduceLE, Int.reduceLT, Int.reduceNeg, Int.reduceEq, Int.reduceNe, Int.reduceAdd, Int.reduceSub, Int.reduceMul, and_self, sx_push, tf, List.length_cons, List.length_nil, Option.some.injEq, exists_eq_left', Nat.reduceAdd, Nat.reduceLeDiff, true_and, and_true, true_or, or_true, Int.zero_add, Nat.zero_le, eq_self, ne_eq, not_true_eq_false, not_false_eq_true, false_implies, true_implies, implies_true, b2i_0, b2i_1, b2i_01, up_sc, sc_at, sc_sc, ite_true, ite_false, if_true, if_false, Nat.reduceEqDiff, reduceIte]
          repeat' (first | intro _ | refine And.intro ?_ ?_)
          all_goals first | omega | exact go4
        simp only [s26_45, s26_48, s26_49, s26_51, Int.reduceToNat, Int.reducePow, Nat.reducePow, Int.reduceLE, Int.reduceLT, Int.reduceNeg, Int.reduceEq, Int.reduceNe, Int.reduceAdd, Int.reduceSub, Int.reduceMul, and_self, sx_push, tf, List.length_cons, List.length_nil, Option.some.injEq, exists_eq_left', Nat.reduceAdd, Nat.reduceLeDiff, true_and, and_true, true_or, or_true, Int.zero_add, Nat.zero_le, eq_self, ne_eq, not_true_eq_false, not_false_eq_true, false_implies, true_implies, implies_true, b2i_0, b2i_1, b2i_01, up_sc, sc_at, sc_sc, ite_true, ite_false, if_true, if_false, Nat.reduceEqDiff, reduceIte]
        repeat' (first | intro _ | refine And.intro ?_ ?_)
        all_goals first | omega | exact go3
      simp only [s26_38, s26_41, s26_42, Int.reduceToNat, Int.reducePow, Nat.reducePow, Int.reduceLE, Int.reduceLT, Int.reduceNeg, Int.reduceEq, Int.reduceNe, Int.reduceAdd, Int.reduceSub, Int.reduceMul, and_self, sx_push, tf, List.length_cons, List.length_nil, Option.some.injEq, exists_eq_left', Nat.reduceAdd, Nat.reduceLeDiff, true_and, and_true, true_or, or_true, Int.zero_add, Nat.zero_le, eq_self, ne_eq, not_true_eq_false, not_false_eq_true, false_implies, true_implies, implies_true, b2i_0, b2i_1, b2i_01, up_sc, sc_at, sc_sc, ite_true, ite_false, if_true, if_false, Nat.reduceEqDiff, reduceIte]
      repeat' (first | intro _ | refine And.intro ?_ ?_)
      all_goals first | omega | exact go2
    simp only [s26_0, s26_1, s26_4, s26_6, s26_32, s26_33, s26_35, Int.reduceToNat, Int.reducePow, Nat.reducePow, Int.reduceLE, Int.reduceLT, Int.reduceNeg, Int.reduceEq, Int.reduceNe, Int.reduceAdd, Int.reduceSub, Int.reduceMul, and_self, sx_push, tf, List.length_cons, List.length_nil, Option.some.injEq, exists_eq_left', Nat.reduceAdd, Nat.reduceLeDiff, true_and, and_true, true_or, or_true, Int.zero_add, Nat.zero_le, eq_self, ne_eq, not_true_eq_false, not_false_eq_true, false_implies, true_implies, implies_true, b2i_0, b2i_1, b2i_01, up_sc, sc_at, sc_sc, ite_true, ite_false, if_true, if_false, Nat.reduceEqDiff, reduceIte, s1]
    repeat' (first | intro _ | refine And.intro ?_ ?_)
    all_goals first | omega | exact go
end S9
