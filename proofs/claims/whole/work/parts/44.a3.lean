/-! acts: drop, move, by, undo -/
theorem nmF_n {f h : Int → Int} {q : Int} (e : ∀ j, 240 ≤ j → h j = f j) (q0 : 0 ≤ q) : nmF h q = nmF f q := by
  unfold nmF
  rw [e _ (by omega), e (240 + 6 * q + 1) (by omega), e (240 + 6 * q + 2) (by omega), e (240 + 6 * q + 3) (by omega), e (240 + 6 * q + 4) (by omega), e (240 + 6 * q + 5) (by omega)]
section A3
variable {n : Nat} {c : Int} {σ : sxS} {K : Option sxV → sxT → sxS → Prop}
theorem cl36 {p : Int} (hc : c < 100000) : call2 n c 144 271 [some (vR 1), some (vI p)] [some (vR 149), some (vI p)] := fun σ h => by
  have h' := h
  obtain ⟨hP, hO, hM, hH, hT, hR, hS, hF, hQ, hV, hI, hG, hW⟩ := h'
  have rr := Rel_r h hc (w := 2) (by omega) (by omega)
  have ki := keep_in h
  by_cases e : thereP (σ 150) p
  · have e' := e
    obtain ⟨⟨p0, p1⟩, p2⟩ := e'
    have m := Rel_mp h p0 p1 p2
    simp only [s144_0, s144_1, s144_4, s144_5, s144_8, s144_11, s144_12, s144_13, s144_16, s144_17, s144_18, s144_19, s144_20, s144_23, s144_24, s144_27, sx_push, tf, List.length_cons, List.length_nil, Option.some.injEq, exists_eq_left', Nat.reduceAdd, Nat.reduceLeDiff, true_and, and_true, true_or, or_true, Int.zero_add, Nat.zero_le, eq_self, ne_eq, not_true_eq_false, not_false_eq_true, false_implies, true_implies, implies_true, b2i_0, b2i_1, b2i_01, up_sc, sc_at, sc_sc, ite_true, ite_false, if_true, if_false, Nat.reduceEqDiff, reduceIte, x49 isP7 hP.1.1, p0, p1, p2, and_self]
    repeat' (first | intro _ | refine And.intro ?_ ?_)
    all_goals first | omega | (exfalso; rename_i z1; exact z1 trivial) | skip
    refine x142 ki.1.1 ki.1.2 ki.2.1 (fun σ1 a1 a2 a3 a4 => ?_)
    have hP1 := kp_PT a1 hP
    simp only [s144_30, s144_31, s144_34, s144_35, sx_push, tf, List.length_cons, List.length_nil, Option.some.injEq, exists_eq_left', Nat.reduceAdd, Nat.reduceLeDiff, true_and, and_true, true_or, or_true, Int.zero_add, Nat.zero_le, eq_self, ne_eq, not_true_eq_false, not_false_eq_true, false_implies, true_implies, implies_true, b2i_0, b2i_1, b2i_01, up_sc, sc_at, sc_sc, ite_true, ite_false, if_true, if_false, Nat.reduceEqDiff, reduceIte]
    refine x126 isP7 hP1.1 hO.1 hO.2.1 hP1.2.1 p0 p1 p2 (fun σ2 b1 b2 b3 b4 b5 => ?_)
    simp only [s144_38, s144_39, sx_push, tf, List.length_cons, List.length_nil, Option.some.injEq, exists_eq_left', Nat.reduceAdd, Nat.reduceLeDiff, true_and, and_true, true_or, or_true, Int.zero_add, Nat.zero_le, eq_self, ne_eq, not_true_eq_false, not_false_eq_true, false_implies, true_implies, implies_true, b2i_0, b2i_1, b2i_01, up_sc, sc_at, sc_sc, ite_true, ite_false, if_true, if_false, Nat.reduceEqDiff, reduceIte]
    refine ⟨_, rfl, ?_⟩
    have g149 : σ2 149 = σ 149 := by rw [b1 149 (by omega), a1 149 (by omega) (by omega)]
    have g150 : σ2 150 = σ 150 := by rw [b1 150 (by omega), a1 150 (by omega) (by omega)]
    have g151 : σ2 151 = σ 151 := by rw [b1 151 (by omega), a1 151 (by omega) (by omega)]
    refine x271t (by rw [g150]; exact hO.1.2.1) (by rw [g150]; exact hO.1.2.2.1) (by rw [g150]; exact hO.1.2.2.2) (by rw [g149]; exact ki.2.2.1) (by rw [g149]; exact ki.2.2.2) (by rw [g150]; exact e) (fun σ3 d1 d2 => ?_)
    rw [g150] at d1
    refine ⟨rfl, rfl, ?_⟩
    have ig := inv_goes hO.1 p0 p1 p2
    refine Rel_act (σ2 := σ2) (f := goesF (σ 150) p) h m.1 m.2 a1 a2 a3 a4 (fr_w b1 (by omega) (by omega)) ⟨b4, b5, fun q q0 q1 => ?_⟩ (rowOk_goes hO p0 p1 p2) ?_ (fun k hk => ?_) d1 ?_ ?_ (fun k k1 k2 => ?_)
    · rw [b2, nmF_n (f := σ 150) (fun j hj => goesF_n (by omega) p1) q0, ig.2 q q0 q1]
      by_cases z : q = p
      · subst z
        rw [up1_s, if_pos rfl]
        exact ⟨fun y => (by cases y), fun _ => rfl⟩
      · rw [up1_n z, if_neg z]; exact hP1.2.2 q q0 q1
    · rw [b3, a1 7 (by omega) (by omega), m.2, goesF_n (by omega) p1]
    · rw [d2 k (by omega) (by omega), remS_at (by omega) (by omega)]
    · rw [d2 151 (by omega) (by omega)]; simp only [remS, sc_at]; simp [g149, g150, g151]
    · rw [d2 149 (by omega) (by omega)]; simp only [remS, sc_at]; simp [g149]
    · unfold scr at k2
      rw [d2 k (by omega) (by omega), remS_at (by omega) (by omega), b1 k (by omega), a1 k (by omega) (by omega)]
  · have x144f : ∀ K : Option sxV → sxT → sxS → Prop, K (some (vI 0)) (T0 n) (sc σ 148 (up1 (σ 148) 2 (σ 148 2 + 1))) → Rn 144 0 [some (vR 1), some (vI p)] [] (T0 n) σ K := fun K hK => by
      simp only [s144_0, s144_1, s144_4, s144_5, s144_8, s144_11, s144_12, s144_13, s144_16, s144_17, s144_18, sx_push, tf, List.length_cons, List.length_nil, Option.some.injEq, exists_eq_left', Nat.reduceAdd, Nat.reduceLeDiff, true_and, and_true, true_or, or_true, Int.zero_add, Nat.zero_le, eq_self, ne_eq, not_true_eq_false, not_false_eq_true, false_implies, true_implies, implies_true, b2i_0, b2i_1, b2i_01, up_sc, sc_at, sc_sc, ite_true, ite_false, if_true, if_false, Nat.reduceEqDiff, reduceIte, x49 isP7 hP.1.1, x12 (n := n) (show (0 : Int) ≤ 2 by omega) (show (2 : Int) < 6 by omega) rr.1]
      repeat' (first | intro _ | refine And.intro ?_ ?_)
      all_goals first | exact hK | (exfalso; rename_i z1; exact e (Classical.not_not.mp z1)) | omega
    refine x144f _ ⟨rfl, _, rfl, ?_⟩
    rw [x271f (by simpa [sc_at] using rr.2) (by simpa [sc_at] using e)]
    refine ⟨rfl, rfl, ?_, by simp [sc_at]⟩
    have := Rel_ref h (w := 2) (by omega) (by omega)
    simpa [sc_at] using this
theorem cl37 {p x y z : Int} (hc : c < 100000) : call2 n c 145 272 [some (vR 1), some (vI p), some (vI x), some (vI y), some (vI z), none, none] [some (vR 149), some (vI p), some (vI x), some (vI y), some (vI z)] := fun σ h => by
  have h' := h
  obtain ⟨hP, hO, hM, hH, hT, hR, hS, hF, hQ, hV, hI, hG, hW⟩ := h'
  have rr := Rel_r h hc (w := 2) (by omega) (by omega)
  have ki := keep_in h
  by_cases e : movC (σ 150) p x y z
  · have e' := e
    obtain ⟨⟨⟨p0, p1⟩, p2⟩, c2, c3⟩ := e'
    have m := Rel_mp h p0 p1 p2
    have e2 : plc x y z = pk x y z := if_pos c2
    have pr := pk_rng c2.1 c2.2.1 c2.2.2
    simp only [s145_0, s145_1, s145_2, s145_4, s145_7, s145_9, s145_10, s145_13, s145_14, s145_17, s145_20, s145_22, s145_23, s145_26, s145_27, s145_30, s145_32, s145_35, s145_36, s145_39, s145_40, s145_41, s145_44, s145_45, s145_46, s145_47, s145_48, s145_51, s145_52, s145_55, sx_push, tf, List.length_cons, List.length_nil, Option.some.injEq, exists_eq_left', Nat.reduceAdd, Nat.reduceLeDiff, true_and, and_true, true_or, or_true, Int.zero_add, Nat.zero_le, eq_self, ne_eq, not_true_eq_false, not_false_eq_true, false_implies, true_implies, implies_true, b2i_0, b2i_1, b2i_01, up_sc, sc_at, sc_sc, ite_true, ite_false, if_true, if_false, Nat.reduceEqDiff, reduceIte, x33, e2, x49 isP7 hP.1.1, p0, p1, p2, and_self, x58 isP7 hP.1.1 hO.1.2.1 c2.1 c2.2.1 c2.2.2, c3]
    repeat' (first | intro _ | refine And.intro ?_ ?_)
    all_goals first | omega | (exfalso; rename_i z1; exact z1 trivial) | skip
    refine x142 ki.1.1 ki.1.2 ki.2.1 (fun σ1 a1 a2 a3 a4 => ?_)
    have hP1 := kp_PT a1 hP
    simp only [s145_58, s145_59, s145_62, s145_65, s145_66, s145_67, s145_69, s145_70, s145_73, s145_74, sx_push, tf, List.length_cons, List.length_nil, Option.some.injEq, exists_eq_left', Nat.reduceAdd, Nat.reduceLeDiff, true_and, and_true, true_or, or_true, Int.zero_add, Nat.zero_le, eq_self, ne_eq, not_true_eq_false, not_false_eq_true, false_implies, true_implies, implies_true, b2i_0, b2i_1, b2i_01, up_sc, sc_at, sc_sc, ite_true, ite_false, if_true, if_false, Nat.reduceEqDiff, reduceIte]
    refine ⟨by omega, ?_⟩
    refine x126 isP7 hP1.1 hO.1 hO.2.1 hP1.2.1 p0 p1 p2 (fun σ2 b1 b2 b3 b4 b5 => ?_)
    simp only [s145_77, s145_78, s145_81, s145_82, s145_84, sx_push, tf, List.length_cons, List.length_nil, Option.some.injEq, exists_eq_left', Nat.reduceAdd, Nat.reduceLeDiff, true_and, and_true, true_or, or_true, Int.zero_add, Nat.zero_le, eq_self, ne_eq, not_true_eq_false, not_false_eq_true, false_implies, true_implies, implies_true, b2i_0, b2i_1, b2i_01, up_sc, sc_at, sc_sc, ite_true, ite_false, if_true, if_false, Nat.reduceEqDiff, reduceIte]
    have ig := inv_goes hO.1 p0 p1 p2
    have gp : goesF (σ 150) p p = 0 := by rw [ig.2 p p0 p1, if_pos rfl]
    have rg := rowOk_goes hO p0 p1 p2
    refine x36 isP7 b4 ig.1 (by rw [b3, a1 7 (by omega) (by omega), m.2, goesF_n (by omega) p1]) p0 p1 gp c2.1 c2.2.1 c2.2.2 (fun σ3 q1 q2 q3 q4 q5 => ?_)
    simp only [s145_87, s145_88, s145_91, s145_94, s145_95, s145_97, s145_98, s145_99, sx_push, tf, List.length_cons, List.length_nil, Option.some.injEq, exists_eq_left', Nat.reduceAdd, Nat.reduceLeDiff, true_and, and_true, true_or, or_true, Int.zero_add, Nat.zero_le, eq_self, ne_eq, not_true_eq_false, not_false_eq_true, false_implies, true_implies, implies_true, b2i_0, b2i_1, b2i_01, up_sc, sc_at, sc_sc, ite_true, ite_false, if_true, if_false, Nat.reduceEqDiff, reduceIte]
    refine ⟨by omega, _, rfl, ?_⟩
    have s149 : σ3 149 = σ 149 := by rw [q1 149 (by omega), b1 149 (by omega), a1 149 (by omega) (by omega)]
    have s150 : σ3 150 = σ 150 := by rw [q1 150 (by omega), b1 150 (by omega), a1 150 (by omega) (by omega)]
    have s151 : σ3 151 = σ 151 := by rw [q1 151 (by omega), b1 151 (by omega), a1 151 (by omega) (by omega)]
    have g149 : sc σ3 11 (up1 (σ3 11) p (σ1 11 p)) 149 = σ 149 := by rw [sc_at, if_neg (by decide)]; exact s149
    have g150 : sc σ3 11 (up1 (σ3 11) p (σ1 11 p)) 150 = σ 150 := by rw [sc_at, if_neg (by decide)]; exact s150
    have g151 : sc σ3 11 (up1 (σ3 11) p (σ1 11 p)) 151 = σ 151 := by rw [sc_at, if_neg (by decide)]; exact s151
    refine x272t (by rw [g150]; exact hO.1.2.1) (by rw [g150]; exact hO.1.2.2.1) (by rw [g150]; exact hO.1.2.2.2) (by rw [g149]; exact ki.2.2.1) (by rw [g149]; exact ki.2.2.2) (by rw [g150]; exact e) (by rw [g150]; exact ig.1.2.1) (fun σ4 d1 d2 => ?_)
    rw [g150] at d1
    refine ⟨rfl, rfl, ?_⟩
    have cF : ∀ j, 240 ≤ j → comesF (goesF (σ 150) p) p x y z j = σ 150 j := fun j hj => by rw [comesF_n (by omega) (by omega) (by omega) (by omega) (by omega) (by omega), goesF_n (by omega) p1]
    have ct := (comesF_t (f := goesF (σ 150) p) (x := x) (y := y) (z := z) p0 p1).1
    have np : ∀ q, 0 ≤ q → q < 40 → q ≠ p → comesF (goesF (σ 150) p) p x y z q = σ 150 q := fun q q0 q1 e => by rw [comesF_n e (by omega) (by omega) (by omega) (by omega) (by omega), ig.2 q q0 q1, if_neg e]
    refine Rel_act (σ2 := sc σ3 11 (up1 (σ3 11) p (σ1 11 p))) (f := comesF (goesF (σ 150) p) p x y z) h m.1 m.2 a1 a2 a3 a4 ?_ ⟨?_, fun q q0 q1 hq => ?_, fun q q0 q1 => ?_⟩ (rowOk_comes rg p0 p1 (by rw [gp]; decide) c2.1 c2.2.1 c2.2.2) ?_ (fun k hk => ?_) d1 ?_ ?_ (fun k k1 k2 => ?_)
    · exact fr_sc (fr_w (fr_tr b1 q1) (by omega) (by omega)) (by omega) (by omega)
    · obtain ⟨r1, r2, r3, r4⟩ := q5
      exact ⟨r1, r2, r3, r4⟩
    · have z : q ≠ p := fun z => by rw [z, ct] at hq; cases hq
      rw [np q q0 q1 z] at hq
      show σ3 9 q = -1
      rw [(q4 q z).2]
      exact b5 q q0 q1 (by rw [ig.2 q q0 q1, if_neg z]; exact hq)
    · rw [nmF_n (f := σ 150) cF q0]
      show _ ∧ _
      rw [show sc σ3 11 (up1 (σ3 11) p (σ1 11 p)) (7 + 4) = up1 (σ3 11) p (σ1 11 p) from by rw [sc_at, if_pos rfl]]
      by_cases z : q = p
      · subst z
        rw [up1_s]
        exact ⟨fun _ => (hP1.2.2 q q0 q1).1 p2, fun y => absurd ct y⟩
      · rw [up1_n z, np q q0 q1 z, show σ3 11 = σ2 11 from q2, show σ2 11 = up1 (σ1 11) p 0 from b2, up1_n z]
        exact hP1.2.2 q q0 q1
    · rw [cF _ (by omega)]
      show σ3 7 4 = _
      rw [q3, b3, a1 7 (by omega) (by omega), m.2]
    · rw [d2 k (by omega) (by omega), remS_at (by omega) (by omega)]
    · rw [d2 151 (by omega) (by omega)]; simp only [remS, sc_at]; simp [s149, s150, s151]
    · rw [d2 149 (by omega) (by omega)]; simp only [remS, sc_at]; simp [s149]
    · unfold scr at k2
      rw [d2 k (by omega) (by omega), remS_at (by omega) (by omega), sc_at, if_neg (by omega), q1 k (by omega), b1 k (by omega), a1 k (by omega) (by omega)]
  · have x145f : ∀ K : Option sxV → sxT → sxS → Prop, K (some (vI 0)) (T0 n) (sc σ 148 (up1 (σ 148) 2 (σ 148 2 + 1))) → Rn 145 0 [some (vR 1), some (vI p), some (vI x), some (vI y), some (vI z), none, none] [] (T0 n) σ K := fun K hK => by
      by_cases c2 : (0 ≤ x ∧ x ≤ 255) ∧ (0 ≤ y ∧ y ≤ 255) ∧ 0 ≤ z ∧ z ≤ 255
      · have e2 : plc x y z = pk x y z := if_pos c2
        have pr := pk_rng c2.1 c2.2.1 c2.2.2
        simp only [s145_0, s145_1, s145_2, s145_4, s145_7, s145_9, s145_10, s145_13, s145_14, s145_17, s145_20, s145_22, s145_23, s145_26, s145_27, s145_30, s145_32, s145_35, s145_36, s145_39, s145_40, s145_41, s145_44, s145_45, s145_46, sx_push, tf, List.length_cons, List.length_nil, Option.some.injEq, exists_eq_left', Nat.reduceAdd, Nat.reduceLeDiff, true_and, and_true, true_or, or_true, Int.zero_add, Nat.zero_le, eq_self, ne_eq, not_true_eq_false, not_false_eq_true, false_implies, true_implies, implies_true, b2i_0, b2i_1, b2i_01, up_sc, sc_at, sc_sc, ite_true, ite_false, if_true, if_false, Nat.reduceEqDiff, reduceIte, x33, e2, x49 isP7 hP.1.1, x58 isP7 hP.1.1 hO.1.2.1 c2.1 c2.2.1 c2.2.2, x12 (n := n) (show (0 : Int) ≤ 2 by omega) (show (2 : Int) < 6 by omega) rr.1]
        repeat' (first | intro _ | refine And.intro ?_ ?_)
        all_goals first | exact hK | omega | (exfalso; rename_i z1 z2 z3; exact e ⟨Classical.not_not.mp z1, c2, z3⟩)
      · have e2 : plc x y z = -1 := if_neg c2
        simp only [s145_0, s145_1, s145_2, s145_4, s145_7, s145_9, s145_10, s145_13, s145_14, s145_17, s145_20, s145_22, s145_23, s145_26, s145_27, s145_30, s145_32, s145_35, s145_36, s145_39, s145_40, s145_41, s145_44, s145_45, s145_46, sx_push, tf, List.length_cons, List.length_nil, Option.some.injEq, exists_eq_left', Nat.reduceAdd, Nat.reduceLeDiff, true_and, and_true, true_or, or_true, Int.zero_add, Nat.zero_le, eq_self, ne_eq, not_true_eq_false, not_false_eq_true, false_implies, true_implies, implies_true, b2i_0, b2i_1, b2i_01, up_sc, sc_at, sc_sc, ite_true, ite_false, if_true, if_false, Nat.reduceEqDiff, reduceIte, x33, e2, x49 isP7 hP.1.1, x12 (n := n) (show (0 : Int) ≤ 2 by omega) (show (2 : Int) < 6 by omega) rr.1]
        repeat' (first | intro _ | refine And.intro ?_ ?_)
        all_goals first | exact hK | omega
    refine x145f _ ⟨rfl, _, rfl, ?_⟩
    rw [x272f (by simpa [sc_at] using rr.2) (by simpa [sc_at] using e)]
    refine ⟨rfl, rfl, ?_, by simp [sc_at]⟩
    have := Rel_ref h (w := 2) (by omega) (by omega)
    simpa [sc_at] using this
end A3
