/-! a text: all of it: the reference, and both -/
theorem mrG_uni {t : Int → Int} {L ms e ms' e' : Int} (h : mrG t L ms e) (h' : mrG t L ms' e') : ms = ms' ∧ e = e' := by
  obtain ⟨a1, a2, a3, a4, a5, a6⟩ := h
  obtain ⟨b1, b2, b3, b4, b5, b6⟩ := h'
  have e1 := (own_iff (show 2 + ms.toNat < 7 by omega)).mpr a4
  have e2 := (own_iff (show 2 + ms'.toNat < 7 by omega)).mpr b4
  have : ms = ms' := by omega
  subst this
  exact ⟨rfl, a6.trans b6.symm⟩
theorem mrG_B {t : Int → Int} {L ms e p : Int} (h : mrG t L ms e) (h' : mrB t L p) : False := by
  obtain ⟨a1, a2, a3, a4, a5, a6⟩ := h
  rcases h' with ⟨b1, _⟩ | ⟨_, ⟨b1, _⟩ | ⟨_, ⟨b1, b2, b3, _⟩ | ⟨ms', b3, b4, b5, b6⟩⟩⟩
  · exact b1 a1
  · exact b1 a2
  · rcases (show ms = 0 ∨ ms = 1 ∨ ms = 2 by omega) with rfl | rfl | rfl
    · exact b1 a4
    · exact b2 a4
    · exact b3 a4
  · have e1 := (own_iff (show 2 + ms.toNat < 7 by omega)).mpr a4
    have e2 := (own_iff (show 2 + ms'.toNat < 7 by omega)).mpr b4
    have : ms = ms' := by omega
    subst this
    exact b5 a5
theorem mrB_uni {t : Int → Int} {L p p' : Int} (h : mrB t L p) (h' : mrB t L p') : p = p' := by
  rcases h with ⟨a1, rfl⟩ | ⟨a1, ⟨a2, rfl⟩ | ⟨a2, ⟨a3, a4, a5, rfl⟩ | ⟨ms, a3, a4, a5, rfl⟩⟩⟩ <;> rcases h' with ⟨b1, rfl⟩ | ⟨b1, ⟨b2, rfl⟩ | ⟨b2, ⟨b3, b4, b5, rfl⟩ | ⟨ms', b3, b4, b5, rfl⟩⟩⟩
  all_goals first | rfl | (exfalso; contradiction) | skip
  · rcases (show ms' = 0 ∨ ms' = 1 ∨ ms' = 2 by omega) with rfl | rfl | rfl
    · exact absurd b4 a3
    · exact absurd b4 a4
    · exact absurd b4 a5
  · rcases (show ms = 0 ∨ ms = 1 ∨ ms = 2 by omega) with rfl | rfl | rfl
    · exact absurd a4 b3
    · exact absurd a4 b4
    · exact absurd a4 b5
  · have e1 := (own_iff (show 2 + ms.toNat < 7 by omega)).mpr a4
    have e2 := (own_iff (show 2 + ms'.toNat < 7 by omega)).mpr b4
    have : ms = ms' := by omega
    subst this
    rfl
section SF
variable {n : Nat} {σ : sxS} {K : Option sxV → sxT → sxS → Prop} {t : Int → Int} {L : Int}
/-- a turn of the loop up to behind 'point', or its fault -/
theorem x175p (t8 : ∀ j, 0 ≤ j → j < L → in8 (t j)) (h : rOk σ t L) {a c m : Int} {F : Int → Int} (ha : σ 149 13 = a) (a0 : 0 ≤ a) (a1 : a ≤ L) (h0 : σ 149 15 = 0) (hw : wP t L a) (hS : rSt σ c F) (sL : skF t L 1600 a < L) (m0 : 0 ≤ m) (m1 : m ≤ 100) (hK1 : spJ t L (sx_str 5) (skF t L 1600 a) = true → ∀ σ', rf0 σ σ' → σ' 149 13 = skF t L 1600 a + 5 → (0 ≤ skF t L 1600 a + 5 ∧ skF t L 1600 a + 5 ≤ L) → wP t L (skF t L 1600 a + 5) → σ' 149 14 = skF t L 1600 a → σ' 149 15 = 0 → σ' 149 16 = σ 149 16 → Rn 187 0 [some (vR 149), none, none, none, none] [] (T0 n) σ' (fun r T' σ' => Rn 175 101 [some (vR 149), some (vI m)] (sx_push r []) T' σ' K)) (hK0 : ¬ spJ t L (sx_str 5) (skF t L 1600 a) = true → ∀ σ', rf0 σ σ' → σ' 149 15 = 1 → σ' 149 16 = skF t L 1600 a → K (some (vI (m + 1))) (T0 n) σ') : Rn 175 70 [some (vR 149), some (vI m)] [] (T0 n) σ K := by
  have h' := h
  obtain ⟨r1, r2, r3, r4⟩ := h'
  obtain ⟨k1, k2, k3⟩ := skF_in (t := t) (L := L) 1600 a a0 a1 (by omega)
  have ws := wP_sk r2.2 a0 a1 hw
  have ss : skF t L 1600 (skF t L 1600 a) = skF t L 1600 a := skF_skF k2
  have main : Rn 179 0 [some (vR 149)] [] (T0 n) σ (fun r T' σ' => Rn 175 81 [some (vR 149), some (vI m)] (sx_push r []) T' σ' K) := by
    refine x179 1600 a σ r1 r2.2 r3 ha a0 a1 (by omega) ?_
    generalize skF t L 1600 a = s at *
    have b8 := t8 s (by omega) sL
    have bb : bt t L s = t s := bt_in (by omega) sL
    unfold in8 at b8
    have f1 : rf0 σ (sc σ 149 (up1 (σ 149) 13 s)) := rf0_13
    have f13 : sc σ 149 (up1 (σ 149) 13 s) 149 13 = s := by rw [sc_at, if_pos rfl, up1_s]
    have f15 : sc σ 149 (up1 (σ 149) 13 s) 149 15 = 0 := by rw [sc_at, if_pos rfl, up1_n (by decide), h0]
    have f16 : sc σ 149 (up1 (σ 149) 13 s) 149 16 = σ 149 16 := by rw [sc_at, if_pos rfl, up1_n (by decide)]
    generalize sc σ 149 (up1 (σ 149) 13 s) = σ1 at *
    have R1 := rf0_ok h f1
    have go : Rn 176 0 [some (vR 149), some (vI 5)] [] (T0 n) σ1 (fun r T' σ' => Rn 175 90 [some (vR 149), some (vI m)] (sx_push r []) T' σ' K) := by
      refine x176f R1 f13 (by omega) (by omega) f15 ws ss (j := 5) (by decide) rfl (fun y σ2 g1 g2 g3 g4 g5 => ?_) (fun y σ2 g1 g2 g3 => ?_)
      · have i0 := spJ_in (j := 5) (by decide) r2.2 (by omega) (by omega) y
        rw [show ((sx_str 5).length : Int) = 5 from rfl] at i0 g2
        have nx := hK1 y σ2 (rf0_tr f1 g1) g2 (by omega) (wP_e i0.2) g3 g4 (by rw [g5, f16])
        simp only [s175_90, s175_91, s175_94, s175_97, s175_98, Int.reduceToNat, Int.reducePow, Nat.reducePow, Int.reduceLE, Int.reduceLT, Int.reduceNeg, Int.reduceEq, Int.reduceNe, Int.reduceAdd, Int.reduceSub, Int.reduceMul, and_self, sx_push, tf, List.length_cons, List.length_nil, Option.some.injEq, exists_eq_left', Nat.reduceAdd, Nat.reduceLeDiff, true_and, and_true, true_or, or_true, Int.zero_add, Nat.zero_le, eq_self, ne_eq, not_true_eq_false, not_false_eq_true, false_implies, true_implies, implies_true, b2i_0, b2i_1, b2i_01, up_sc, sc_at, sc_sc, ite_true, ite_false, if_true, if_false, Nat.reduceEqDiff, reduceIte, x178, g4]
        repeat' (first | intro _ | refine And.intro ?_ ?_)
        all_goals first | omega | exact nx
      · have nz : σ2 149 15 ≠ 0 := by rw [g2]; decide
        have nx := x175w (n := n) (K := K) (m := m + 1) nz (hK0 y σ2 (rf0_tr f1 g1) g2 g3)
        simp only [s175_90, s175_91, s175_94, s175_101, s175_102, s175_105, s175_108, Int.reduceToNat, Int.reducePow, Nat.reducePow, Int.reduceLE, Int.reduceLT, Int.reduceNeg, Int.reduceEq, Int.reduceNe, Int.reduceAdd, Int.reduceSub, Int.reduceMul, and_self, sx_push, tf, List.length_cons, List.length_nil, Option.some.injEq, exists_eq_left', Nat.reduceAdd, Nat.reduceLeDiff, true_and, and_true, true_or, or_true, Int.zero_add, Nat.zero_le, eq_self, ne_eq, not_true_eq_false, not_false_eq_true, false_implies, true_implies, implies_true, b2i_0, b2i_1, b2i_01, up_sc, sc_at, sc_sc, ite_true, ite_false, if_true, if_false, Nat.reduceEqDiff, reduceIte, x178, g2, x186n nz]
        repeat' (first | intro _ | refine And.intro ?_ ?_)
        all_goals first | omega | exact nx
    simp only [s175_81, s175_82, s175_85, s175_86, s175_87, Int.reduceToNat, Int.reducePow, Nat.reducePow, Int.reduceLE, Int.reduceLT, Int.reduceNeg, Int.reduceEq, Int.reduceNe, Int.reduceAdd, Int.reduceSub, Int.reduceMul, and_self, sx_push, tf, List.length_cons, List.length_nil, Option.some.injEq, exists_eq_left', Nat.reduceAdd, Nat.reduceLeDiff, true_and, and_true, true_or, or_true, Int.zero_add, Nat.zero_le, eq_self, ne_eq, not_true_eq_false, not_false_eq_true, false_implies, true_implies, implies_true, b2i_0, b2i_1, b2i_01, up_sc, sc_at, sc_sc, ite_true, ite_false, if_true, if_false, Nat.reduceEqDiff, reduceIte, bb]
    repeat' (first | intro _ | refine And.intro ?_ ?_)
    all_goals first | omega | exact go
  rw [s175_70]
  simp only [s175_71, s175_74, s175_77, s175_78, Int.reduceToNat, Int.reducePow, Nat.reducePow, Int.reduceLE, Int.reduceLT, Int.reduceNeg, Int.reduceEq, Int.reduceNe, Int.reduceAdd, Int.reduceSub, Int.reduceMul, and_self, sx_push, tf, List.length_cons, List.length_nil, Option.some.injEq, exists_eq_left', Nat.reduceAdd, Nat.reduceLeDiff, true_and, and_true, true_or, or_true, Int.zero_add, Nat.zero_le, eq_self, ne_eq, not_true_eq_false, not_false_eq_true, false_implies, true_implies, implies_true, b2i_0, b2i_1, b2i_01, up_sc, sc_at, sc_sc, ite_true, ite_false, if_true, if_false, Nat.reduceEqDiff, reduceIte, x178, h0]
  repeat' (first | intro _ | refine And.intro ?_ ?_)
  all_goals first | omega | exact main
theorem x175b {m : Int} (h0 : σ 149 15 ≠ 0) (m0 : 0 ≤ m) (m1 : m ≤ 100) (hK : K (some (vI (m + 1))) (T0 n) σ) : Rn 175 101 [some (vR 149), some (vI m)] [] (T0 n) σ K := by
  have nx := x175w (n := n) (K := K) (m := m + 1) h0 hK
  simp only [s175_101, s175_102, s175_105, s175_108, Int.reduceToNat, Int.reducePow, Nat.reducePow, Int.reduceLE, Int.reduceLT, Int.reduceNeg, Int.reduceEq, Int.reduceNe, Int.reduceAdd, Int.reduceSub, Int.reduceMul, and_self, sx_push, tf, List.length_cons, List.length_nil, Option.some.injEq, exists_eq_left', Nat.reduceAdd, Nat.reduceLeDiff, true_and, and_true, true_or, or_true, Int.zero_add, Nat.zero_le, eq_self, ne_eq, not_true_eq_false, not_false_eq_true, false_implies, true_implies, implies_true, b2i_0, b2i_1, b2i_01, up_sc, sc_at, sc_sc, ite_true, ite_false, if_true, if_false, Nat.reduceEqDiff, reduceIte, x186n h0]
  repeat' (first | intro _ | refine And.intro ?_ ?_)
  all_goals first | omega | exact nx
theorem x175q {m e s : Int} (h : rOk σ t L) (ha : σ 149 13 = e) (a0 : 0 ≤ e) (a1 : e ≤ L) (h0 : σ 149 15 = 0) (hs : skF t L 1600 e = s) (m0 : 0 ≤ m) (m1 : m ≤ 100) (hK1 : bt t L s = 59 → ∀ σ', rf0 σ σ' → σ' 149 13 = s + 1 → (0 ≤ s + 1 ∧ s + 1 ≤ L) → wP t L (s + 1) → σ' 149 15 = 0 → σ' 149 16 = σ 149 16 → Rn 175 70 [some (vR 149), some (vI (m + 1))] [] (T0 n) σ' K) (hK0 : bt t L s ≠ 59 → ∀ σ', rf0 σ σ' → σ' 149 15 = 1 → σ' 149 16 = s → K (some (vI (m + 1))) (T0 n) σ') : Rn 175 101 [some (vR 149), some (vI m)] [] (T0 n) σ K := by
  have r2 := h.2.1
  have k1 := (skF_in (t := t) (L := L) 1600 e a0 a1 (by omega)).1
  rw [hs] at k1
  have go : Rn 186 0 [some (vR 149)] [] (T0 n) σ (fun r T' σ' => Rn 175 105 [some (vR 149), some (vI m)] (sx_push r []) T' σ' K) := by
    refine x186f h ha a0 a1 h0 hs (fun y σ1 f1 f2 f3 f4 => ?_) (fun y σ1 f1 f2 f3 => ?_)
    · have bs : s < L := by
        apply Classical.byContradiction
        intro w
        rw [bt_out (by omega)] at y
        omega
      have nx := hK1 y σ1 f1 f2 (by omega) (Or.inr (by
        rw [Int.add_sub_cancel, y]
        unfold sml dgt
        omega)) f3 f4
      simp only [s175_105, s175_108, Int.reduceToNat, Int.reducePow, Nat.reducePow, Int.reduceLE, Int.reduceLT, Int.reduceNeg, Int.reduceEq, Int.reduceNe, Int.reduceAdd, Int.reduceSub, Int.reduceMul, and_self, sx_push, tf, List.length_cons, List.length_nil, Option.some.injEq, exists_eq_left', Nat.reduceAdd, Nat.reduceLeDiff, true_and, and_true, true_or, or_true, Int.zero_add, Nat.zero_le, eq_self, ne_eq, not_true_eq_false, not_false_eq_true, false_implies, true_implies, implies_true, b2i_0, b2i_1, b2i_01, up_sc, sc_at, sc_sc, ite_true, ite_false, if_true, if_false, Nat.reduceEqDiff, reduceIte]
      repeat' (first | intro _ | refine And.intro ?_ ?_)
      all_goals first | omega | exact nx
    · have nx := x175w (n := n) (K := K) (m := m + 1) (by rw [f2]; decide) (hK0 y σ1 f1 f2 f3)
      simp only [s175_105, s175_108, Int.reduceToNat, Int.reducePow, Nat.reducePow, Int.reduceLE, Int.reduceLT, Int.reduceNeg, Int.reduceEq, Int.reduceNe, Int.reduceAdd, Int.reduceSub, Int.reduceMul, and_self, sx_push, tf, List.length_cons, List.length_nil, Option.some.injEq, exists_eq_left', Nat.reduceAdd, Nat.reduceLeDiff, true_and, and_true, true_or, or_true, Int.zero_add, Nat.zero_le, eq_self, ne_eq, not_true_eq_false, not_false_eq_true, false_implies, true_implies, implies_true, b2i_0, b2i_1, b2i_01, up_sc, sc_at, sc_sc, ite_true, ite_false, if_true, if_false, Nat.reduceEqDiff, reduceIte]
      repeat' (first | intro _ | refine And.intro ?_ ?_)
      all_goals first | omega | exact nx
  simp only [s175_101, s175_102, Int.reduceToNat, Int.reducePow, Nat.reducePow, Int.reduceLE, Int.reduceLT, Int.reduceNeg, Int.reduceEq, Int.reduceNe, Int.reduceAdd, Int.reduceSub, Int.reduceMul, and_self, sx_push, tf, List.length_cons, List.length_nil, Option.some.injEq, exists_eq_left', Nat.reduceAdd, Nat.reduceLeDiff, true_and, and_true, true_or, or_true, Int.zero_add, Nat.zero_le, eq_self, ne_eq, not_true_eq_false, not_false_eq_true, false_implies, true_implies, implies_true, b2i_0, b2i_1, b2i_01, up_sc, sc_at, sc_sc, ite_true, ite_false, if_true, if_false, Nat.reduceEqDiff, reduceIte]
  repeat' (first | intro _ | refine And.intro ?_ ?_)
  all_goals first | omega | exact go
/-- a whole point -/
theorem x175t (t8 : ∀ j, 0 ≤ j → j < L → in8 (t j)) (h : rOk σ t L) {a c e : Int} {F F' : Int → Int} (ha : σ 149 13 = a) (a0 : 0 ≤ a) (a1 : a ≤ L) (h0 : σ 149 15 = 0) (hw : wP t L a) (hS : rSt σ c F) (sL : skF t L 1600 a < L) (hG : ptG t L c F (skF t L 1600 a) F' e) (hK : ∀ σ', rfS σ σ' → σ' 149 13 = e → (0 ≤ e ∧ e ≤ L) → wP t L e → σ' 149 15 = 0 → σ' 149 16 = σ 149 16 → σ' 149 19 = σ 149 19 → rSt σ' (c + 1) F' → Rn 175 70 [some (vR 149), some (vI (c + 1 + 1))] [] (T0 n) σ' K) : Rn 175 70 [some (vR 149), some (vI (c + 1))] [] (T0 n) σ K := by
  obtain ⟨c1, y5, F1, e1, g1, y6, e2, g2, y9, he⟩ := hG
  have c0 := hS.2.1
  refine x175p t8 h ha a0 a1 h0 hw hS sL (by omega) (by omega) (fun _ σ1 f1 f2 f3 f4 f5 f6 f7 => ?_) (fun z => absurd y5 z)
  have R1 := rf0_ok h f1
  refine x187g R1 f2 f3.1 f3.2 f6 f4 (rSt_0 hS f1) c1 g1 y6 (F' := F') (e := e2) (Or.inl ⟨g2, fun σ2 p1 p2 p3 p4 p5 p6 p7 => ?_⟩)
  refine x175q (rfS_ok R1 p1) p2 p3.1 p3.2 p4 rfl (by omega) (by omega) (fun y σ3 q1 q2 q3 q4 q5 q6 => ?_) (fun y => absurd y9 y)
  exact hK σ3 (rfS_tr (rfS_0 f1) (rfS_tr p1 (rfS_0 q1))) (by rw [q2, he]) (by omega) (by rw [he]; exact q4) q5 (by rw [q6, p5, f7]) (by rw [q1.2 19 (by decide) (by decide) (by decide) (by decide), p6, f1.2 19 (by decide) (by decide) (by decide) (by decide)]) (rSt_0 p7 q1)
/-- a point with a fault -/
theorem x175u (t8 : ∀ j, 0 ≤ j → j < L → in8 (t j)) (h : rOk σ t L) {a c k p : Int} {F : Int → Int} (ha : σ 149 13 = a) (a0 : 0 ≤ a) (a1 : a ≤ L) (h0 : σ 149 15 = 0) (hw : wP t L a) (hS : rSt σ c F) (sL : skF t L 1600 a < L) (hB : ptZ t L c F (skF t L 1600 a) k p) (hK : ∀ σ' v, rfS σ σ' → k ≠ 0 → σ' 149 15 = k → σ' 149 16 = p → K (some (vI v)) (T0 n) σ') : Rn 175 70 [some (vR 149), some (vI (c + 1))] [] (T0 n) σ K := by
  have c0 := hS.2.1
  refine x175p t8 h ha a0 a1 h0 hw hS sL (by omega) (by omega) (fun y5 σ1 f1 f2 f3 f4 f5 f6 f7 => ?_) (fun y5 σ1 f1 f2 f3 => ?_)
  rotate_left
  · rcases hB with ⟨_, rfl, rfl⟩ | ⟨z, _⟩
    · exact hK σ1 _ (rfS_0 f1) (by decide) f2 f3
    · exact absurd z y5
  have R1 := rf0_ok h f1
  have S1 := rSt_0 hS f1
  rcases hB with ⟨z, _⟩ | ⟨_, ⟨c4', rfl, rfl⟩ | ⟨c1, B⟩⟩
  · exact absurd y5 z
  · refine x187f f6 (by rw [S1.1, c4']) f5 (fun σ2 p1 p2 p3 => ?_)
    exact x175b (by rw [p2]; decide) (by omega) (by omega) (hK σ2 _ (rfS_tr (rfS_0 f1) p1) (by decide) p2 p3)
  · rcases B with B | ⟨F1, e1, g1, B⟩
    · have k0 := nmB_k B
      refine x187c R1 f2 f3.1 f3.2 f6 f4 S1 c1 B (fun σ2 p1 p2 p3 => ?_)
      exact x175b (by rw [p2]; exact k0) (by omega) (by omega) (hK σ2 _ (rfS_tr (rfS_0 f1) p1) k0 p2 p3)
    · rcases B with ⟨y6, rfl, rfl⟩ | ⟨y6, B⟩
      · refine x187e R1 f2 f3.1 f3.2 f6 f4 S1 c1 g1 y6 (fun σ2 p1 p2 p3 => ?_)
        exact x175b (by rw [p2]; decide) (by omega) (by omega) (hK σ2 _ (rfS_tr (rfS_0 f1) p1) (by decide) p2 p3)
      · rcases B with B | ⟨F', e2, g2, y9, rfl, rfl⟩
        · refine x187g R1 f2 f3.1 f3.2 f6 f4 S1 c1 g1 y6 (F' := F) (e := 0) (Or.inr ⟨k, p, B, fun σ2 p1 p2 k0 p3 => ?_⟩)
          exact x175b (by rw [p2]; exact k0) (by omega) (by omega) (hK σ2 _ (rfS_tr (rfS_0 f1) p1) k0 p2 p3)
        · refine x187g R1 f2 f3.1 f3.2 f6 f4 S1 c1 g1 y6 (F' := F') (e := e2) (Or.inl ⟨g2, fun σ2 p1 p2 p3 p4 p5 p6 p7 => ?_⟩)
          refine x175q (rfS_ok R1 p1) p2 p3.1 p3.2 p4 rfl (by omega) (by omega) (fun y => absurd y y9) (fun y σ3 q1 q2 q3 => ?_)
          exact hK σ3 _ (rfS_tr (rfS_0 f1) (rfS_tr p1 (rfS_0 q1))) (by decide) q2 q3
theorem x175g (t8 : ∀ j, 0 ≤ j → j < L → in8 (t j)) {c' : Int} {F' : Int → Int} : ∀ (m : Nat) (c a : Int) (F : Int → Int) (σ : sxS), rOk σ t L → σ 149 13 = a → 0 ≤ a → a ≤ L → σ 149 15 = 0 → wP t L a → rSt σ c F → psG t L m c F a c' F' → (∀ σ', rfS σ σ' → σ' 149 15 = 0 → σ' 149 16 = σ 149 16 → σ' 149 19 = σ 149 19 → rSt σ' c' F' → K (some (vI (c' + 1))) (T0 n) σ') → Rn 175 70 [some (vR 149), some (vI (c + 1))] [] (T0 n) σ K := by
  intro m
  induction m with
  | zero =>
    intro c a F σ h ha a0 a1 h0 hw hS hG hK
    obtain ⟨z, rfl, rfl⟩ := hG
    have h' := h
    obtain ⟨r1, r2, r3, r4⟩ := h'
    have k1 := (skF_in (t := t) (L := L) 1600 a a0 a1 (by omega)).1
    have c0 := hS.2.1
    have main : Rn 179 0 [some (vR 149)] [] (T0 n) σ (fun r T' σ' => Rn 175 81 [some (vR 149), some (vI (c' + 1))] (sx_push r []) T' σ' K) := by
      refine x179 1600 a σ r1 r2.2 r3 ha a0 a1 (by omega) ?_
      have bb : bt t L (skF t L 1600 a) = -1 := bt_out (by omega)
      have hK := hK (sc σ 149 (up1 (σ 149) 13 (skF t L 1600 a))) (rfS_0 rf0_13) (by rw [sc_at, if_pos rfl, up1_n (by decide), h0]) (by rw [sc_at, if_pos rfl, up1_n (by decide)]) (by rw [sc_at, if_pos rfl, up1_n (by decide)]) (rSt_0 hS rf0_13)
      simp only [s175_81, s175_82, s175_111, s175_112, Int.reduceToNat, Int.reducePow, Nat.reducePow, Int.reduceLE, Int.reduceLT, Int.reduceNeg, Int.reduceEq, Int.reduceNe, Int.reduceAdd, Int.reduceSub, Int.reduceMul, and_self, sx_push, tf, List.length_cons, List.length_nil, Option.some.injEq, exists_eq_left', Nat.reduceAdd, Nat.reduceLeDiff, true_and, and_true, true_or, or_true, Int.zero_add, Nat.zero_le, eq_self, ne_eq, not_true_eq_false, not_false_eq_true, false_implies, true_implies, implies_true, b2i_0, b2i_1, b2i_01, up_sc, sc_at, sc_sc, ite_true, ite_false, if_true, if_false, Nat.reduceEqDiff, reduceIte, bb]
      repeat' (first | intro _ | refine And.intro ?_ ?_)
      all_goals first | omega | exact hK
    rw [s175_70]
    simp only [s175_71, s175_74, s175_77, s175_78, Int.reduceToNat, Int.reducePow, Nat.reducePow, Int.reduceLE, Int.reduceLT, Int.reduceNeg, Int.reduceEq, Int.reduceNe, Int.reduceAdd, Int.reduceSub, Int.reduceMul, and_self, sx_push, tf, List.length_cons, List.length_nil, Option.some.injEq, exists_eq_left', Nat.reduceAdd, Nat.reduceLeDiff, true_and, and_true, true_or, or_true, Int.zero_add, Nat.zero_le, eq_self, ne_eq, not_true_eq_false, not_false_eq_true, false_implies, true_implies, implies_true, b2i_0, b2i_1, b2i_01, up_sc, sc_at, sc_sc, ite_true, ite_false, if_true, if_false, Nat.reduceEqDiff, reduceIte, x178, h0]
    repeat' (first | intro _ | refine And.intro ?_ ?_)
    all_goals first | omega | exact main
  | succ m ih =>
    intro c a F σ h ha a0 a1 h0 hw hS hG hK
    obtain ⟨z, F1, e, g1, g2⟩ := hG
    refine x175t t8 h ha a0 a1 h0 hw hS z g1 (fun σ1 f1 f2 f3 f4 f5 f6 f7 f8 => ?_)
    exact ih (c + 1) e F1 σ1 (rfS_ok h f1) f2 f3.1 f3.2 f5 f4 f8 g2 (fun σ2 p1 p2 p3 p4 p5 => hK σ2 (rfS_tr f1 p1) p2 (by rw [p3, f6]) (by rw [p4, f7]) p5)
theorem x175f (t8 : ∀ j, 0 ≤ j → j < L → in8 (t j)) {k p : Int} : ∀ (m : Nat) (c a : Int) (F : Int → Int) (σ : sxS), rOk σ t L → σ 149 13 = a → 0 ≤ a → a ≤ L → σ 149 15 = 0 → wP t L a → rSt σ c F → psB t L m c F a k p → (∀ σ' v, rfS σ σ' → k ≠ 0 → σ' 149 15 = k → σ' 149 16 = p → K (some (vI v)) (T0 n) σ') → Rn 175 70 [some (vR 149), some (vI (c + 1))] [] (T0 n) σ K := by
  intro m
  induction m with
  | zero =>
    intro c a F σ h ha a0 a1 h0 hw hS hG hK
    obtain ⟨z, g⟩ := hG
    exact x175u t8 h ha a0 a1 h0 hw hS z g hK
  | succ m ih =>
    intro c a F σ h ha a0 a1 h0 hw hS hG hK
    obtain ⟨z, F1, e, g1, g2⟩ := hG
    refine x175t t8 h ha a0 a1 h0 hw hS z g1 (fun σ1 f1 f2 f3 f4 f5 f6 f7 f8 => ?_)
    exact ih (c + 1) e F1 σ1 (rfS_ok h f1) f2 f3.1 f3.2 f5 f4 f8 g2 (fun σ2 v p1 p2 p3 p4 => hK σ2 v (rfS_tr f1 p1) p2 p3 p4)
theorem rSt_z {σ : sxS} (h : σ 149 18 = 0) : rSt σ 0 (fun _ => 0) := ⟨h, by omega, fun j j0 j1 => by omega, fun q q0 q1 => by omega, fun p k _ _ _ _ => by show (0 : Int) ≤ 0 ∧ (0 : Int) ≤ 26; omega⟩
theorem x175G (t8 : ∀ j, 0 ≤ j → j < L → in8 (t j)) (h : rOk σ t L) (ha : σ 149 13 = 0) (h0 : σ 149 15 = 0) {ms e c' : Int} {m : Nat} {F' : Int → Int} (g1 : mrG t L ms e) (g2 : psG t L m 0 (fun _ => 0) e c' F') (hK : ∀ σ', rfS σ σ' → σ' 149 15 = 0 → σ' 149 16 = σ 149 16 → σ' 149 19 = ms → rSt σ' c' F' → K (some (vI (c' + 1))) (T0 n) σ') : Rn 175 0 [some (vR 149), none] [] (T0 n) σ K := by
  refine x175h h ha h0 (fun σ1 ms' e' q1 f1 f2 f3 f4 f5 f6 f7 f8 => ?_) (fun σ1 p q1 => (mrG_B g1 q1).elim)
  obtain ⟨rfl, rfl⟩ := mrG_uni g1 q1
  exact x175g t8 m 0 e _ σ1 (rfS_ok h f1) f2 f3.1 f3.2 f5 f4 (rSt_z f7) g2 (fun σ2 p1 p2 p3 p4 p5 => hK σ2 (rfS_tr f1 p1) p2 (by rw [p3, f6]) (by rw [p4, f8]) p5)
theorem x175F (t8 : ∀ j, 0 ≤ j → j < L → in8 (t j)) (h : rOk σ t L) (ha : σ 149 13 = 0) (h0 : σ 149 15 = 0) {k p : Int} (hB : (k = 1 ∧ mrB t L p) ∨ ∃ ms e m, mrG t L ms e ∧ psB t L m 0 (fun _ => 0) e k p) (hK : ∀ σ' v, rfS σ σ' → k ≠ 0 → σ' 149 15 = k → σ' 149 16 = p → K (some (vI v)) (T0 n) σ') : Rn 175 0 [some (vR 149), none] [] (T0 n) σ K := by
  rcases hB with ⟨rfl, g1⟩ | ⟨ms, e, m, g1, g2⟩
  · refine x175h h ha h0 (fun σ1 ms' e' q1 => (mrG_B q1 g1).elim) (fun σ1 p' q1 f1 f2 f3 => ?_)
    obtain rfl := mrB_uni g1 q1
    exact hK σ1 1 f1 (by decide) f2 f3
  · refine x175h h ha h0 (fun σ1 ms' e' q1 f1 f2 f3 f4 f5 f6 f7 f8 => ?_) (fun σ1 p q1 => (mrG_B g1 q1).elim)
    obtain ⟨rfl, rfl⟩ := mrG_uni g1 q1
    exact x175f t8 m 0 e _ σ1 (rfS_ok h f1) f2 f3.1 f3.2 f5 f4 (rSt_z f7) g2 (fun σ2 v p1 p2 p3 p4 => hK σ2 v (rfS_tr f1 p1) p2 p3 p4)
end SF
