/-! a text: points: the reference -/
theorem numB_k {t : Int → Int} {L a k p : Int} (h : numB t L a k p) : k ≠ 0 := by
  rcases h with ⟨_, rfl, _⟩ | ⟨_, _, _, _, ⟨_, rfl, _⟩ | ⟨_, _, rfl, _⟩⟩ <;> decide
theorem nmB_k {t : Int → Int} {L c a k p : Int} {F : Int → Int} (h : nmB t L c F a k p) : k ≠ 0 := by
  rcases h with ⟨_, rfl, _⟩ | ⟨_, _, ⟨_, rfl, _⟩ | ⟨_, _, rfl, _⟩⟩ <;> decide
section SD
variable {n : Nat} {σ : sxS} {K : Option sxV → sxT → sxS → Prop} {t : Int → Int} {L : Int}
theorem x187s (h : rOk σ t L) {a c v e i b : Int} {u x : Option sxV} (ha : σ 149 13 = a) (a0 : 0 ≤ a) (a1 : a ≤ L) (h0 : σ 149 15 = 0) (hw : nP t L a) (h18 : σ 149 18 = c) (c0 : 0 ≤ c) (c1 : c < 40) (i0 : 0 ≤ i) (i3 : i < 3) (hG : numG t L a v e) (hK : ∀ σ', (∀ q, q ≠ 149 → q ≠ 157 → σ' q = σ q) → (∀ j, j ≠ 13 → j ≠ 14 → σ' 149 j = σ 149 j) → σ' 149 13 = e → σ' 157 = up1 (σ 157) (3 * c + i) v → Rn 187 40 [some (vR 149), some (vI (if i = 0 then skF t L 1600 a else b)), some (vI (i + 1)), some (vI v), x] [] (T0 n) σ' K) : Rn 187 40 [some (vR 149), some (vI b), some (vI i), u, x] [] (T0 n) σ K := by
  have go : Rn 190 0 [some (vR 149), none] [] (T0 n) σ (fun r T' σ' => Rn 187 49 [some (vR 149), some (vI b), some (vI i), u, x] (sx_push r []) T' σ' K) := by
    refine x190g h ha a0 a1 h0 hw hG (fun σ1 f1 f2 f3 f4 f5 => ?_)
    have g18 : σ1 149 18 = c := by rw [f1.2 18 (by decide) (by decide) (by decide) (by decide), h18]
    have g149 : ∀ g, sc σ1 157 g 149 = σ1 149 := fun g => by rw [sc_at, if_neg (by decide)]
    have nx := hK (sc σ1 157 (up1 (σ1 157) (3 * c + i) v)) (fun q q1 q2 => by rw [sc_at, if_neg q2, f1.1 q q1]) (fun j j1 j2 => by
      rw [g149]
      by_cases z5 : j = 15
      · rw [z5, f4, h0]
      · by_cases z6 : j = 16
        · rw [z6, f5]
        · exact f1.2 j j1 j2 z5 z6) (by rw [g149]; exact f2) (by rw [sc_at, if_pos rfl, f1.1 157 (by decide)])
    by_cases z : i = 0
    · subst z
      rw [if_pos rfl] at nx
      simp only [s187_49, s187_50, s187_51, s187_54, s187_57, s187_58, s187_59, s187_62, s187_63, s187_66, s187_67, s187_68, s187_71, s187_72, s187_73, s187_76, s187_77, s187_78, s187_79, s187_80, s187_81, s187_84, Int.reduceToNat, Int.reducePow, Nat.reducePow, Int.reduceLE, Int.reduceLT, Int.reduceNeg, Int.reduceEq, Int.reduceNe, Int.reduceAdd, Int.reduceSub, Int.reduceMul, and_self, sx_push, tf, List.length_cons, List.length_nil, Option.some.injEq, exists_eq_left', Nat.reduceAdd, Nat.reduceLeDiff, true_and, and_true, true_or, or_true, Int.zero_add, Nat.zero_le, eq_self, ne_eq, not_true_eq_false, not_false_eq_true, false_implies, true_implies, implies_true, b2i_0, b2i_1, b2i_01, up_sc, sc_at, sc_sc, ite_true, ite_false, if_true, if_false, Nat.reduceEqDiff, reduceIte, x178, f4, f3, g18]
      repeat' (first | intro _ | refine And.intro ?_ ?_)
      all_goals first | omega | exact nx
    · rw [if_neg z] at nx
      simp only [s187_49, s187_50, s187_51, s187_54, s187_57, s187_58, s187_59, s187_67, s187_68, s187_71, s187_72, s187_73, s187_76, s187_77, s187_78, s187_79, s187_80, s187_81, s187_84, Int.reduceToNat, Int.reducePow, Nat.reducePow, Int.reduceLE, Int.reduceLT, Int.reduceNeg, Int.reduceEq, Int.reduceNe, Int.reduceAdd, Int.reduceSub, Int.reduceMul, and_self, sx_push, tf, List.length_cons, List.length_nil, Option.some.injEq, exists_eq_left', Nat.reduceAdd, Nat.reduceLeDiff, true_and, and_true, true_or, or_true, Int.zero_add, Nat.zero_le, eq_self, ne_eq, not_true_eq_false, not_false_eq_true, false_implies, true_implies, implies_true, b2i_0, b2i_1, b2i_01, up_sc, sc_at, sc_sc, ite_true, ite_false, if_true, if_false, Nat.reduceEqDiff, reduceIte, x178, f4, g18]
      repeat' (first | intro _ | refine And.intro ?_ ?_)
      all_goals first | omega | contradiction | exact nx
  rw [s187_40]
  simp only [s187_41, s187_42, s187_45, s187_46, Int.reduceToNat, Int.reducePow, Nat.reducePow, Int.reduceLE, Int.reduceLT, Int.reduceNeg, Int.reduceEq, Int.reduceNe, Int.reduceAdd, Int.reduceSub, Int.reduceMul, and_self, sx_push, tf, List.length_cons, List.length_nil, Option.some.injEq, exists_eq_left', Nat.reduceAdd, Nat.reduceLeDiff, true_and, and_true, true_or, or_true, Int.zero_add, Nat.zero_le, eq_self, ne_eq, not_true_eq_false, not_false_eq_true, false_implies, true_implies, implies_true, b2i_0, b2i_1, b2i_01, up_sc, sc_at, sc_sc, ite_true, ite_false, if_true, if_false, Nat.reduceEqDiff, reduceIte]
  repeat' (first | intro _ | refine And.intro ?_ ?_)
  all_goals first | omega | exact go
theorem x187t (h : rOk σ t L) {a k p i b : Int} {u x : Option sxV} (ha : σ 149 13 = a) (a0 : 0 ≤ a) (a1 : a ≤ L) (h0 : σ 149 15 = 0) (hw : nP t L a) (i0 : 0 ≤ i) (i3 : i < 3) (hB : numB t L a k p) (hK : ∀ σ', rf0 σ σ' → σ' 149 15 = k → σ' 149 16 = p → K none (T0 n) σ') : Rn 187 40 [some (vR 149), some (vI b), some (vI i), u, x] [] (T0 n) σ K := by
  have k0 := numB_k hB
  have go : Rn 190 0 [some (vR 149), none] [] (T0 n) σ (fun r T' σ' => Rn 187 49 [some (vR 149), some (vI b), some (vI i), u, x] (sx_push r []) T' σ' K) := by
    refine x190b h ha a0 a1 h0 hw hB (fun σ1 v f1 f2 f3 => ?_)
    have hK := hK σ1 f1 f2 f3
    simp only [s187_49, s187_50, s187_51, s187_54, s187_57, Int.reduceToNat, Int.reducePow, Nat.reducePow, Int.reduceLE, Int.reduceLT, Int.reduceNeg, Int.reduceEq, Int.reduceNe, Int.reduceAdd, Int.reduceSub, Int.reduceMul, and_self, sx_push, tf, List.length_cons, List.length_nil, Option.some.injEq, exists_eq_left', Nat.reduceAdd, Nat.reduceLeDiff, true_and, and_true, true_or, or_true, Int.zero_add, Nat.zero_le, eq_self, ne_eq, not_true_eq_false, not_false_eq_true, false_implies, true_implies, implies_true, b2i_0, b2i_1, b2i_01, up_sc, sc_at, sc_sc, ite_true, ite_false, if_true, if_false, Nat.reduceEqDiff, reduceIte, x178, f2]
    repeat' (first | intro _ | refine And.intro ?_ ?_)
    all_goals first | omega | contradiction | exact hK
  rw [s187_40]
  simp only [s187_41, s187_42, s187_45, s187_46, Int.reduceToNat, Int.reducePow, Nat.reducePow, Int.reduceLE, Int.reduceLT, Int.reduceNeg, Int.reduceEq, Int.reduceNe, Int.reduceAdd, Int.reduceSub, Int.reduceMul, and_self, sx_push, tf, List.length_cons, List.length_nil, Option.some.injEq, exists_eq_left', Nat.reduceAdd, Nat.reduceLeDiff, true_and, and_true, true_or, or_true, Int.zero_add, Nat.zero_le, eq_self, ne_eq, not_true_eq_false, not_false_eq_true, false_implies, true_implies, implies_true, b2i_0, b2i_1, b2i_01, up_sc, sc_at, sc_sc, ite_true, ite_false, if_true, if_false, Nat.reduceEqDiff, reduceIte]
  repeat' (first | intro _ | refine And.intro ?_ ?_)
  all_goals first | omega | exact go
theorem x187u {i b : Int} {u x : Option sxV} (h0 : σ 149 15 ≠ 0) (i0 : 0 ≤ i) (i3 : i < 3) (hK : K none (T0 n) σ) : Rn 187 40 [some (vR 149), some (vI b), some (vI i), u, x] [] (T0 n) σ K := by
  rw [s187_40]
  simp only [s187_41, s187_42, s187_45, s187_46, s187_49, s187_50, s187_51, s187_54, s187_57, Int.reduceToNat, Int.reducePow, Nat.reducePow, Int.reduceLE, Int.reduceLT, Int.reduceNeg, Int.reduceEq, Int.reduceNe, Int.reduceAdd, Int.reduceSub, Int.reduceMul, and_self, sx_push, tf, List.length_cons, List.length_nil, Option.some.injEq, exists_eq_left', Nat.reduceAdd, Nat.reduceLeDiff, true_and, and_true, true_or, or_true, Int.zero_add, Nat.zero_le, eq_self, ne_eq, not_true_eq_false, not_false_eq_true, false_implies, true_implies, implies_true, b2i_0, b2i_1, b2i_01, up_sc, sc_at, sc_sc, ite_true, ite_false, if_true, if_false, Nat.reduceEqDiff, reduceIte, x190n h0, x178]
  repeat' (first | intro _ | refine And.intro ?_ ?_)
  all_goals first | omega | contradiction | exact hK
abbrev pq (σ : sxS) (q c : Int) : Prop := σ 157 (3 * q) = σ 157 (3 * c) ∧ σ 157 (3 * q + 1) = σ 157 (3 * c + 1) ∧ σ 157 (3 * q + 2) = σ 157 (3 * c + 2)
theorem x187i {c q b : Int} (h18 : σ 149 18 = c) (c1 : c < 40) (q0 : 0 ≤ q) (q1 : q < c) (hK : Rn 187 152 [some (vR 149), some (vI b), some (vI q), some (vI (b2i (pq σ q c))), some (vI 3)] [] (T0 n) σ K) : Rn 187 102 [some (vR 149), some (vI b), some (vI q), some (vI 1), some (vI 0)] [] (T0 n) σ K := by
  have s0 : Rn 187 102 [some (vR 149), some (vI b), some (vI q), some (vI (b2i (σ 157 (3 * q) = σ 157 (3 * c)))), some (vI 1)] [] (T0 n) σ K := by
    have s1 : Rn 187 102 [some (vR 149), some (vI b), some (vI q), some (vI (b2i (σ 157 (3 * q) = σ 157 (3 * c) ∧ σ 157 (3 * q + 1) = σ 157 (3 * c + 1)))), some (vI 2)] [] (T0 n) σ K := by
      have s2 : Rn 187 102 [some (vR 149), some (vI b), some (vI q), some (vI (b2i (pq σ q c))), some (vI 3)] [] (T0 n) σ K := by
        rw [s187_102]
        simp only [s187_104, s187_105, Int.reduceToNat, Int.reducePow, Nat.reducePow, Int.reduceLE, Int.reduceLT, Int.reduceNeg, Int.reduceEq, Int.reduceNe, Int.reduceAdd, Int.reduceSub, Int.reduceMul, and_self, sx_push, tf, List.length_cons, List.length_nil, Option.some.injEq, exists_eq_left', Nat.reduceAdd, Nat.reduceLeDiff, true_and, and_true, true_or, or_true, Int.zero_add, Nat.zero_le, eq_self, ne_eq, not_true_eq_false, not_false_eq_true, false_implies, true_implies, implies_true, b2i_0, b2i_1, b2i_01, up_sc, sc_at, sc_sc, ite_true, ite_false, if_true, if_false, Nat.reduceEqDiff, reduceIte]
        repeat' (first | intro _ | refine And.intro ?_ ?_)
        all_goals first | omega | exact hK
      by_cases z : σ 157 (3 * q) = σ 157 (3 * c) ∧ σ 157 (3 * q + 1) = σ 157 (3 * c + 1)
      · rw [b2i_t z]
        rw [s187_102]
        by_cases w : σ 157 (3 * q + 2) = σ 157 (3 * c + 2)
        · rw [b2i_t ⟨z.1, z.2, w⟩] at s2
          simp only [s187_104, s187_105, s187_108, s187_109, s187_112, s187_113, s187_116, s187_117, s187_118, s187_119, s187_121, s187_122, s187_123, s187_124, s187_127, s187_128, s187_129, s187_132, s187_133, s187_135, s187_136, s187_137, s187_140, s187_141, s187_144, s187_145, s187_146, s187_149, Int.reduceToNat, Int.reducePow, Nat.reducePow, Int.reduceLE, Int.reduceLT, Int.reduceNeg, Int.reduceEq, Int.reduceNe, Int.reduceAdd, Int.reduceSub, Int.reduceMul, and_self, sx_push, tf, List.length_cons, List.length_nil, Option.some.injEq, exists_eq_left', Nat.reduceAdd, Nat.reduceLeDiff, true_and, and_true, true_or, or_true, Int.zero_add, Nat.zero_le, eq_self, ne_eq, not_true_eq_false, not_false_eq_true, false_implies, true_implies, implies_true, b2i_0, b2i_1, b2i_01, up_sc, sc_at, sc_sc, ite_true, ite_false, if_true, if_false, Nat.reduceEqDiff, reduceIte, h18, w]
          repeat' (first | intro _ | refine And.intro ?_ ?_)
          all_goals first | omega | exact s2
        · rw [b2i_f (fun y => w y.2.2)] at s2
          simp only [s187_104, s187_105, s187_108, s187_109, s187_112, s187_113, s187_116, s187_117, s187_118, s187_119, s187_121, s187_122, s187_123, s187_124, s187_127, s187_128, s187_129, s187_132, s187_133, s187_135, s187_136, s187_137, s187_140, s187_141, s187_144, s187_145, s187_146, s187_149, Int.reduceToNat, Int.reducePow, Nat.reducePow, Int.reduceLE, Int.reduceLT, Int.reduceNeg, Int.reduceEq, Int.reduceNe, Int.reduceAdd, Int.reduceSub, Int.reduceMul, and_self, sx_push, tf, List.length_cons, List.length_nil, Option.some.injEq, exists_eq_left', Nat.reduceAdd, Nat.reduceLeDiff, true_and, and_true, true_or, or_true, Int.zero_add, Nat.zero_le, eq_self, ne_eq, not_true_eq_false, not_false_eq_true, false_implies, true_implies, implies_true, b2i_0, b2i_1, b2i_01, up_sc, sc_at, sc_sc, ite_true, ite_false, if_true, if_false, Nat.reduceEqDiff, reduceIte, h18]
          repeat' (first | intro _ | refine And.intro ?_ ?_)
          all_goals first | omega | contradiction | exact s2
      · rw [b2i_f z]
        rw [b2i_f (fun y => z ⟨y.1, y.2.1⟩)] at s2
        rw [s187_102]
        simp only [s187_104, s187_105, s187_108, s187_109, s187_144, s187_145, s187_146, s187_149, Int.reduceToNat, Int.reducePow, Nat.reducePow, Int.reduceLE, Int.reduceLT, Int.reduceNeg, Int.reduceEq, Int.reduceNe, Int.reduceAdd, Int.reduceSub, Int.reduceMul, and_self, sx_push, tf, List.length_cons, List.length_nil, Option.some.injEq, exists_eq_left', Nat.reduceAdd, Nat.reduceLeDiff, true_and, and_true, true_or, or_true, Int.zero_add, Nat.zero_le, eq_self, ne_eq, not_true_eq_false, not_false_eq_true, false_implies, true_implies, implies_true, b2i_0, b2i_1, b2i_01, up_sc, sc_at, sc_sc, ite_true, ite_false, if_true, if_false, Nat.reduceEqDiff, reduceIte]
        repeat' (first | intro _ | refine And.intro ?_ ?_)
        all_goals first | omega | contradiction | exact s2
    by_cases z : σ 157 (3 * q) = σ 157 (3 * c)
    · rw [b2i_t z]
      rw [s187_102]
      by_cases w : σ 157 (3 * q + 1) = σ 157 (3 * c + 1)
      · rw [b2i_t ⟨z, w⟩] at s1
        simp only [s187_104, s187_105, s187_108, s187_109, s187_112, s187_113, s187_116, s187_117, s187_118, s187_119, s187_121, s187_122, s187_123, s187_124, s187_127, s187_128, s187_129, s187_132, s187_133, s187_135, s187_136, s187_137, s187_140, s187_141, s187_144, s187_145, s187_146, s187_149, Int.reduceToNat, Int.reducePow, Nat.reducePow, Int.reduceLE, Int.reduceLT, Int.reduceNeg, Int.reduceEq, Int.reduceNe, Int.reduceAdd, Int.reduceSub, Int.reduceMul, and_self, sx_push, tf, List.length_cons, List.length_nil, Option.some.injEq, exists_eq_left', Nat.reduceAdd, Nat.reduceLeDiff, true_and, and_true, true_or, or_true, Int.zero_add, Nat.zero_le, eq_self, ne_eq, not_true_eq_false, not_false_eq_true, false_implies, true_implies, implies_true, b2i_0, b2i_1, b2i_01, up_sc, sc_at, sc_sc, ite_true, ite_false, if_true, if_false, Nat.reduceEqDiff, reduceIte, h18, w]
        repeat' (first | intro _ | refine And.intro ?_ ?_)
        all_goals first | omega | exact s1
      · rw [b2i_f (fun y => w y.2)] at s1
        simp only [s187_104, s187_105, s187_108, s187_109, s187_112, s187_113, s187_116, s187_117, s187_118, s187_119, s187_121, s187_122, s187_123, s187_124, s187_127, s187_128, s187_129, s187_132, s187_133, s187_135, s187_136, s187_137, s187_140, s187_141, s187_144, s187_145, s187_146, s187_149, Int.reduceToNat, Int.reducePow, Nat.reducePow, Int.reduceLE, Int.reduceLT, Int.reduceNeg, Int.reduceEq, Int.reduceNe, Int.reduceAdd, Int.reduceSub, Int.reduceMul, and_self, sx_push, tf, List.length_cons, List.length_nil, Option.some.injEq, exists_eq_left', Nat.reduceAdd, Nat.reduceLeDiff, true_and, and_true, true_or, or_true, Int.zero_add, Nat.zero_le, eq_self, ne_eq, not_true_eq_false, not_false_eq_true, false_implies, true_implies, implies_true, b2i_0, b2i_1, b2i_01, up_sc, sc_at, sc_sc, ite_true, ite_false, if_true, if_false, Nat.reduceEqDiff, reduceIte, h18]
        repeat' (first | intro _ | refine And.intro ?_ ?_)
        all_goals first | omega | contradiction | exact s1
    · rw [b2i_f z]
      rw [b2i_f (fun y => z y.1)] at s1
      rw [s187_102]
      simp only [s187_104, s187_105, s187_108, s187_109, s187_144, s187_145, s187_146, s187_149, Int.reduceToNat, Int.reducePow, Nat.reducePow, Int.reduceLE, Int.reduceLT, Int.reduceNeg, Int.reduceEq, Int.reduceNe, Int.reduceAdd, Int.reduceSub, Int.reduceMul, and_self, sx_push, tf, List.length_cons, List.length_nil, Option.some.injEq, exists_eq_left', Nat.reduceAdd, Nat.reduceLeDiff, true_and, and_true, true_or, or_true, Int.zero_add, Nat.zero_le, eq_self, ne_eq, not_true_eq_false, not_false_eq_true, false_implies, true_implies, implies_true, b2i_0, b2i_1, b2i_01, up_sc, sc_at, sc_sc, ite_true, ite_false, if_true, if_false, Nat.reduceEqDiff, reduceIte]
      repeat' (first | intro _ | refine And.intro ?_ ?_)
      all_goals first | omega | contradiction | exact s1
  rw [s187_102]
  by_cases w : σ 157 (3 * q) = σ 157 (3 * c)
  · rw [b2i_t w] at s0
    simp only [s187_104, s187_105, s187_108, s187_109, s187_112, s187_113, s187_116, s187_117, s187_118, s187_119, s187_121, s187_122, s187_123, s187_124, s187_127, s187_128, s187_129, s187_132, s187_133, s187_135, s187_136, s187_137, s187_140, s187_141, s187_144, s187_145, s187_146, s187_149, Int.reduceToNat, Int.reducePow, Nat.reducePow, Int.reduceLE, Int.reduceLT, Int.reduceNeg, Int.reduceEq, Int.reduceNe, Int.reduceAdd, Int.reduceSub, Int.reduceMul, and_self, sx_push, tf, List.length_cons, List.length_nil, Option.some.injEq, exists_eq_left', Nat.reduceAdd, Nat.reduceLeDiff, true_and, and_true, true_or, or_true, Int.zero_add, Nat.zero_le, eq_self, ne_eq, not_true_eq_false, not_false_eq_true, false_implies, true_implies, implies_true, b2i_0, b2i_1, b2i_01, up_sc, sc_at, sc_sc, ite_true, ite_false, if_true, if_false, Nat.reduceEqDiff, reduceIte, h18, Int.add_zero, w]
    repeat' (first | intro _ | refine And.intro ?_ ?_)
    all_goals first | omega | exact s0
  · rw [b2i_f w] at s0
    simp only [s187_104, s187_105, s187_108, s187_109, s187_112, s187_113, s187_116, s187_117, s187_118, s187_119, s187_121, s187_122, s187_123, s187_124, s187_127, s187_128, s187_129, s187_132, s187_133, s187_135, s187_136, s187_137, s187_140, s187_141, s187_144, s187_145, s187_146, s187_149, Int.reduceToNat, Int.reducePow, Nat.reducePow, Int.reduceLE, Int.reduceLT, Int.reduceNeg, Int.reduceEq, Int.reduceNe, Int.reduceAdd, Int.reduceSub, Int.reduceMul, and_self, sx_push, tf, List.length_cons, List.length_nil, Option.some.injEq, exists_eq_left', Nat.reduceAdd, Nat.reduceLeDiff, true_and, and_true, true_or, or_true, Int.zero_add, Nat.zero_le, eq_self, ne_eq, not_true_eq_false, not_false_eq_true, false_implies, true_implies, implies_true, b2i_0, b2i_1, b2i_01, up_sc, sc_at, sc_sc, ite_true, ite_false, if_true, if_false, Nat.reduceEqDiff, reduceIte, h18, Int.add_zero]
    repeat' (first | intro _ | refine And.intro ?_ ?_)
    all_goals first | omega | contradiction | exact s0
theorem x187l {c b : Int} (h18 : σ 149 18 = c) (c1 : c < 40) : ∀ (k : Nat) (q : Int) (u x : Option sxV), q + k = c → 0 ≤ q → (∀ r, q ≤ r → r < c → ¬ pq σ r c) → (∀ u x, Rn 187 168 [some (vR 149), some (vI b), some (vI c), u, x] [] (T0 n) σ K) → Rn 187 89 [some (vR 149), some (vI b), some (vI q), u, x] [] (T0 n) σ K := by
  intro k
  induction k with
  | zero =>
    intro q u x hq q0 hn hK
    obtain rfl : q = c := by omega
    have hK := hK u x
    rw [s187_89]
    simp only [s187_90, s187_91, s187_94, Int.reduceToNat, Int.reducePow, Nat.reducePow, Int.reduceLE, Int.reduceLT, Int.reduceNeg, Int.reduceEq, Int.reduceNe, Int.reduceAdd, Int.reduceSub, Int.reduceMul, and_self, sx_push, tf, List.length_cons, List.length_nil, Option.some.injEq, exists_eq_left', Nat.reduceAdd, Nat.reduceLeDiff, true_and, and_true, true_or, or_true, Int.zero_add, Nat.zero_le, eq_self, ne_eq, not_true_eq_false, not_false_eq_true, false_implies, true_implies, implies_true, b2i_0, b2i_1, b2i_01, up_sc, sc_at, sc_sc, ite_true, ite_false, if_true, if_false, Nat.reduceEqDiff, reduceIte, h18]
    repeat' (first | intro _ | refine And.intro ?_ ?_)
    all_goals first | omega | exact hK
  | succ k ih =>
    intro q u x hq q0 hn hK
    have main : Rn 187 102 [some (vR 149), some (vI b), some (vI q), some (vI 1), some (vI 0)] [] (T0 n) σ K := by
      refine x187i h18 c1 q0 (by omega) ?_
      rw [b2i_f (hn q (by omega) (by omega))]
      have nx := ih (q + 1) (some (vI 0)) (some (vI 3)) (by omega) (by omega) (fun r r0 r1 => hn r (by omega) r1) hK
      simp only [s187_152, s187_153, s187_162, s187_165, Int.reduceToNat, Int.reducePow, Nat.reducePow, Int.reduceLE, Int.reduceLT, Int.reduceNeg, Int.reduceEq, Int.reduceNe, Int.reduceAdd, Int.reduceSub, Int.reduceMul, and_self, sx_push, tf, List.length_cons, List.length_nil, Option.some.injEq, exists_eq_left', Nat.reduceAdd, Nat.reduceLeDiff, true_and, and_true, true_or, or_true, Int.zero_add, Nat.zero_le, eq_self, ne_eq, not_true_eq_false, not_false_eq_true, false_implies, true_implies, implies_true, b2i_0, b2i_1, b2i_01, up_sc, sc_at, sc_sc, ite_true, ite_false, if_true, if_false, Nat.reduceEqDiff, reduceIte]
      repeat' (first | intro _ | refine And.intro ?_ ?_)
      all_goals first | omega | contradiction | exact nx
    rw [s187_89]
    simp only [s187_90, s187_91, s187_94, s187_97, s187_98, s187_99, s187_100, Int.reduceToNat, Int.reducePow, Nat.reducePow, Int.reduceLE, Int.reduceLT, Int.reduceNeg, Int.reduceEq, Int.reduceNe, Int.reduceAdd, Int.reduceSub, Int.reduceMul, and_self, sx_push, tf, List.length_cons, List.length_nil, Option.some.injEq, exists_eq_left', Nat.reduceAdd, Nat.reduceLeDiff, true_and, and_true, true_or, or_true, Int.zero_add, Nat.zero_le, eq_self, ne_eq, not_true_eq_false, not_false_eq_true, false_implies, true_implies, implies_true, b2i_0, b2i_1, b2i_01, up_sc, sc_at, sc_sc, ite_true, ite_false, if_true, if_false, Nat.reduceEqDiff, reduceIte, h18]
    repeat' (first | intro _ | refine And.intro ?_ ?_)
    all_goals first | omega | exact main
theorem x187w {c b : Int} (h18 : σ 149 18 = c) (c1 : c < 40) (h0 : σ 149 15 ≠ 0) : ∀ (k : Nat) (q : Int) (u x : Option sxV), q + k = c → 0 ≤ q → (∀ u x, Rn 187 168 [some (vR 149), some (vI b), some (vI c), u, x] [] (T0 n) σ K) → Rn 187 89 [some (vR 149), some (vI b), some (vI q), u, x] [] (T0 n) σ K := by
  intro k
  induction k with
  | zero =>
    intro q u x hq q0 hK
    obtain rfl : q = c := by omega
    have hK := hK u x
    rw [s187_89]
    simp only [s187_90, s187_91, s187_94, Int.reduceToNat, Int.reducePow, Nat.reducePow, Int.reduceLE, Int.reduceLT, Int.reduceNeg, Int.reduceEq, Int.reduceNe, Int.reduceAdd, Int.reduceSub, Int.reduceMul, and_self, sx_push, tf, List.length_cons, List.length_nil, Option.some.injEq, exists_eq_left', Nat.reduceAdd, Nat.reduceLeDiff, true_and, and_true, true_or, or_true, Int.zero_add, Nat.zero_le, eq_self, ne_eq, not_true_eq_false, not_false_eq_true, false_implies, true_implies, implies_true, b2i_0, b2i_1, b2i_01, up_sc, sc_at, sc_sc, ite_true, ite_false, if_true, if_false, Nat.reduceEqDiff, reduceIte, h18]
    repeat' (first | intro _ | refine And.intro ?_ ?_)
    all_goals first | omega | exact hK
  | succ k ih =>
    intro q u x hq q0 hK
    have main : Rn 187 102 [some (vR 149), some (vI b), some (vI q), some (vI 1), some (vI 0)] [] (T0 n) σ K := by
      refine x187i h18 c1 q0 (by omega) ?_
      have nx := fun u => ih (q + 1) u (some (vI 3)) (by omega) (by omega) hK
      have w183 := fun a K => x183n (n := n) (σ := σ) (K := K) (k := 4) (a := a) h0
      simp only [s187_152, s187_153, s187_156, s187_157, s187_158, s187_159, s187_162, s187_165, Int.reduceToNat, Int.reducePow, Nat.reducePow, Int.reduceLE, Int.reduceLT, Int.reduceNeg, Int.reduceEq, Int.reduceNe, Int.reduceAdd, Int.reduceSub, Int.reduceMul, and_self, sx_push, tf, List.length_cons, List.length_nil, Option.some.injEq, exists_eq_left', Nat.reduceAdd, Nat.reduceLeDiff, true_and, and_true, true_or, or_true, Int.zero_add, Nat.zero_le, eq_self, ne_eq, not_true_eq_false, not_false_eq_true, false_implies, true_implies, implies_true, b2i_0, b2i_1, b2i_01, up_sc, sc_at, sc_sc, ite_true, ite_false, if_true, if_false, Nat.reduceEqDiff, reduceIte, w183]
      repeat' (first | intro _ | refine And.intro ?_ ?_)
      all_goals first | omega | exact nx _
    rw [s187_89]
    simp only [s187_90, s187_91, s187_94, s187_97, s187_98, s187_99, s187_100, Int.reduceToNat, Int.reducePow, Nat.reducePow, Int.reduceLE, Int.reduceLT, Int.reduceNeg, Int.reduceEq, Int.reduceNe, Int.reduceAdd, Int.reduceSub, Int.reduceMul, and_self, sx_push, tf, List.length_cons, List.length_nil, Option.some.injEq, exists_eq_left', Nat.reduceAdd, Nat.reduceLeDiff, true_and, and_true, true_or, or_true, Int.zero_add, Nat.zero_le, eq_self, ne_eq, not_true_eq_false, not_false_eq_true, false_implies, true_implies, implies_true, b2i_0, b2i_1, b2i_01, up_sc, sc_at, sc_sc, ite_true, ite_false, if_true, if_false, Nat.reduceEqDiff, reduceIte, h18]
    repeat' (first | intro _ | refine And.intro ?_ ?_)
    all_goals first | omega | exact main
theorem x187d {c b : Int} (h18 : σ 149 18 = c) (c1 : c < 40) (h0 : σ 149 15 = 0) (hK : ∀ u x, Rn 187 168 [some (vR 149), some (vI b), some (vI c), u, x] [] (T0 n) (sc σ 149 (up1 (up1 (σ 149) 15 4) 16 b)) K) : ∀ (k : Nat) (q : Int) (u x : Option sxV), q + k = c → 0 ≤ q → (∃ r, q ≤ r ∧ r < c ∧ pq σ r c) → Rn 187 89 [some (vR 149), some (vI b), some (vI q), u, x] [] (T0 n) σ K := by
  intro k
  induction k with
  | zero =>
    intro q u x hq q0 hn
    obtain ⟨r, r0, r1, r2⟩ := hn
    omega
  | succ k ih =>
    intro q u x hq q0 hn
    have main : Rn 187 102 [some (vR 149), some (vI b), some (vI q), some (vI 1), some (vI 0)] [] (T0 n) σ K := by
      refine x187i h18 c1 q0 (by omega) ?_
      by_cases y : pq σ q c
      · rw [b2i_t y]
        have w183 := fun K => x183y (n := n) (σ := σ) (K := K) (k := 4) (a := b) h0
        have nx := x187w (n := n) (σ := sc σ 149 (up1 (up1 (σ 149) 15 4) 16 b)) (K := K) (c := c) (b := b) (by rw [sc_at, if_pos rfl, up1_n (by decide), up1_n (by decide), h18]) c1 (by rw [sc_at, if_pos rfl, up1_n (by decide), up1_s]; decide) k (q + 1) (some (vI 1)) (some (vI 3)) (by omega) (by omega) hK
        simp only [s187_152, s187_153, s187_156, s187_157, s187_158, s187_159, s187_162, s187_165, Int.reduceToNat, Int.reducePow, Nat.reducePow, Int.reduceLE, Int.reduceLT, Int.reduceNeg, Int.reduceEq, Int.reduceNe, Int.reduceAdd, Int.reduceSub, Int.reduceMul, and_self, sx_push, tf, List.length_cons, List.length_nil, Option.some.injEq, exists_eq_left', Nat.reduceAdd, Nat.reduceLeDiff, true_and, and_true, true_or, or_true, Int.zero_add, Nat.zero_le, eq_self, ne_eq, not_true_eq_false, not_false_eq_true, false_implies, true_implies, implies_true, b2i_0, b2i_1, b2i_01, up_sc, sc_at, sc_sc, ite_true, ite_false, if_true, if_false, Nat.reduceEqDiff, reduceIte, w183]
        repeat' (first | intro _ | refine And.intro ?_ ?_)
        all_goals first | omega | exact nx
      · rw [b2i_f y]
        have nx := ih (q + 1) (some (vI 0)) (some (vI 3)) (by omega) (by omega) (by
          obtain ⟨r, r0, r1, r2⟩ := hn
          refine ⟨r, ?_, r1, r2⟩
          by_cases z : r = q
          · rw [z] at r2; exact absurd r2 y
          · omega)
        simp only [s187_152, s187_153, s187_162, s187_165, Int.reduceToNat, Int.reducePow, Nat.reducePow, Int.reduceLE, Int.reduceLT, Int.reduceNeg, Int.reduceEq, Int.reduceNe, Int.reduceAdd, Int.reduceSub, Int.reduceMul, and_self, sx_push, tf, List.length_cons, List.length_nil, Option.some.injEq, exists_eq_left', Nat.reduceAdd, Nat.reduceLeDiff, true_and, and_true, true_or, or_true, Int.zero_add, Nat.zero_le, eq_self, ne_eq, not_true_eq_false, not_false_eq_true, false_implies, true_implies, implies_true, b2i_0, b2i_1, b2i_01, up_sc, sc_at, sc_sc, ite_true, ite_false, if_true, if_false, Nat.reduceEqDiff, reduceIte]
        repeat' (first | intro _ | refine And.intro ?_ ?_)
        all_goals first | omega | contradiction | exact nx
    rw [s187_89]
    simp only [s187_90, s187_91, s187_94, s187_97, s187_98, s187_99, s187_100, Int.reduceToNat, Int.reducePow, Nat.reducePow, Int.reduceLE, Int.reduceLT, Int.reduceNeg, Int.reduceEq, Int.reduceNe, Int.reduceAdd, Int.reduceSub, Int.reduceMul, and_self, sx_push, tf, List.length_cons, List.length_nil, Option.some.injEq, exists_eq_left', Nat.reduceAdd, Nat.reduceLeDiff, true_and, and_true, true_or, or_true, Int.zero_add, Nat.zero_le, eq_self, ne_eq, not_true_eq_false, not_false_eq_true, false_implies, true_implies, implies_true, b2i_0, b2i_1, b2i_01, up_sc, sc_at, sc_sc, ite_true, ite_false, if_true, if_false, Nat.reduceEqDiff, reduceIte, h18]
    repeat' (first | intro _ | refine And.intro ?_ ?_)
    all_goals first | omega | exact main
theorem spJ_2 {t : Int → Int} {L a : Int} (h : spJ t L (sx_str 6) a = true) : bt t L (a + 1) = 116 := by
  have h' : spJ t L [97, 116] a = true := h
  unfold spJ at h'
  rw [Bool.and_eq_true] at h'
  have h2 := h'.2
  unfold spJ at h2
  rw [Bool.and_eq_true, decide_eq_true_eq] at h2
  exact h2.1
theorem wP_e {t : Int → Int} {L a : Int} (h : ¬ sml (bt t L a)) : wP t L a := Or.inl h
/-- from behind 'point' up to the numbers -/
theorem x187a (h : rOk σ t L) {a c e1 : Int} {F F1 : Int → Int} (ha : σ 149 13 = a) (a0 : 0 ≤ a) (a1 : a ≤ L) (h0 : σ 149 15 = 0) (hw : wP t L a) (hS : rSt σ c F) (c1 : c < 40) (g1 : nmG t L c F a F1 e1) (y2 : spJ t L (sx_str 6) (skF t L 1600 e1) = true) (hK : ∀ σ', (∀ q, q ≠ 149 → q ≠ 158 → σ' q = σ q) → (∀ j, j ≠ 13 → j ≠ 14 → σ' 149 j = σ 149 j) → σ' 149 13 = skF t L 1600 e1 + 2 → (0 ≤ skF t L 1600 e1 + 2 ∧ skF t L 1600 e1 + 2 ≤ L) → nP t L (skF t L 1600 e1 + 2) → (∀ j, 0 ≤ j → j < 6 * c + 6 → σ' 158 j = F1 (240 + j)) → ltr F1 → Rn 187 40 [some (vR 149), some (vI 0), some (vI 0), none, none] [] (T0 n) σ' K) : Rn 187 0 [some (vR 149), none, none, none, none] [] (T0 n) σ K := by
  have r2 := h.2.1
  have h18 := hS.1
  have i1 := nmG_in r2.2 a0 a1 g1
  have k1 := (skF_in (t := t) (L := L) 1600 e1 (by omega) (by omega) (by omega)).1
  have go : Rn 188 0 [some (vR 149), none, none, none] [] (T0 n) σ (fun r T' σ' => Rn 187 30 [some (vR 149), none, none, none, none] (sx_push r []) T' σ' K) := by
    refine x188g h ha a0 a1 h0 hw hS c1 g1 (fun σ1 f1 f2 f3 f4 f5 => ?_)
    have R1 : rOk σ1 t L := by
      obtain ⟨r1, r2, r3, r4⟩ := h
      exact ⟨by rw [f2 12 (by decide) (by decide)]; exact r1, r2, by rw [f1 154 (by decide) (by decide)]; exact r3, by rw [f1 156 (by decide) (by decide)]; exact r4⟩
    have q15 : σ1 149 15 = 0 := by rw [f2 15 (by decide) (by decide), h0]
    have go2 : Rn 176 0 [some (vR 149), some (vI 6)] [] (T0 n) σ1 (fun r T' σ' => Rn 187 36 [some (vR 149), none, none, none, none] (sx_push r []) T' σ' K) := by
      refine x176f R1 f3 (by omega) (by omega) q15 (wP_e i1.2) rfl (j := 6) (by decide) rfl (fun _ σ2 g1 g2 g3 g4 g5 => ?_) (fun z => absurd y2 z)
      have i2 := spJ_in (j := 6) (by decide) r2.2 (by omega) (by omega) y2
      rw [show ((sx_str 6).length : Int) = 2 from rfl] at i2 g2
      have nx := hK σ2 (fun q q1 q2 => by rw [g1.1 q q1, f1 q q1 q2]) (fun j j1 j2 => by
        rw [← f2 j j1 j2]
        by_cases z5 : j = 15
        · rw [z5, g4, q15]
        · by_cases z6 : j = 16
          · rw [z6, g5]
          · exact g1.2 j j1 j2 z5 z6) g2 (by omega) (Or.inl (by rw [show skF t L 1600 e1 + 2 - 1 = skF t L 1600 e1 + 1 by omega, spJ_2 y2]; unfold sml; omega)) (fun j j0 j1 => by rw [g1.1 158 (by decide)]; exact f4 j j0 j1) f5
      simp only [s187_36, s187_37, s187_38, s187_39, Int.reduceToNat, Int.reducePow, Nat.reducePow, Int.reduceLE, Int.reduceLT, Int.reduceNeg, Int.reduceEq, Int.reduceNe, Int.reduceAdd, Int.reduceSub, Int.reduceMul, and_self, sx_push, tf, List.length_cons, List.length_nil, Option.some.injEq, exists_eq_left', Nat.reduceAdd, Nat.reduceLeDiff, true_and, and_true, true_or, or_true, Int.zero_add, Nat.zero_le, eq_self, ne_eq, not_true_eq_false, not_false_eq_true, false_implies, true_implies, implies_true, b2i_0, b2i_1, b2i_01, up_sc, sc_at, sc_sc, ite_true, ite_false, if_true, if_false, Nat.reduceEqDiff, reduceIte]
      repeat' (first | intro _ | refine And.intro ?_ ?_)
      all_goals first | omega | exact nx
    simp only [s187_30, s187_31, s187_33, Int.reduceToNat, Int.reducePow, Nat.reducePow, Int.reduceLE, Int.reduceLT, Int.reduceNeg, Int.reduceEq, Int.reduceNe, Int.reduceAdd, Int.reduceSub, Int.reduceMul, and_self, sx_push, tf, List.length_cons, List.length_nil, Option.some.injEq, exists_eq_left', Nat.reduceAdd, Nat.reduceLeDiff, true_and, and_true, true_or, or_true, Int.zero_add, Nat.zero_le, eq_self, ne_eq, not_true_eq_false, not_false_eq_true, false_implies, true_implies, implies_true, b2i_0, b2i_1, b2i_01, up_sc, sc_at, sc_sc, ite_true, ite_false, if_true, if_false, Nat.reduceEqDiff, reduceIte]
    repeat' (first | intro _ | refine And.intro ?_ ?_)
    all_goals first | omega | exact go2
  simp only [s187_0, s187_1, s187_4, s187_6, s187_18, s187_19, s187_22, s187_25, s187_26, s187_27, Int.reduceToNat, Int.reducePow, Nat.reducePow, Int.reduceLE, Int.reduceLT, Int.reduceNeg, Int.reduceEq, Int.reduceNe, Int.reduceAdd, Int.reduceSub, Int.reduceMul, and_self, sx_push, tf, List.length_cons, List.length_nil, Option.some.injEq, exists_eq_left', Nat.reduceAdd, Nat.reduceLeDiff, true_and, and_true, true_or, or_true, Int.zero_add, Nat.zero_le, eq_self, ne_eq, not_true_eq_false, not_false_eq_true, false_implies, true_implies, implies_true, b2i_0, b2i_1, b2i_01, up_sc, sc_at, sc_sc, ite_true, ite_false, if_true, if_false, Nat.reduceEqDiff, reduceIte, h18, x178, h0]
  repeat' (first | intro _ | refine And.intro ?_ ?_)
  all_goals first | omega | exact go
theorem rOk_c {σ σ' : sxS} (h : rOk σ t L) (h12 : σ' 149 12 = σ 149 12) (h154 : σ' 154 = σ 154) (h156 : σ' 156 = σ 156) : rOk σ' t L := by
  unfold rOk at h ⊢
  rw [h12, h154, h156]; exact h
theorem x187g (h : rOk σ t L) {a c e1 e : Int} {F F1 F' : Int → Int} (ha : σ 149 13 = a) (a0 : 0 ≤ a) (a1 : a ≤ L) (h0 : σ 149 15 = 0) (hw : wP t L a) (hS : rSt σ c F) (c1 : c < 40) (g1 : nmG t L c F a F1 e1) (y2 : spJ t L (sx_str 6) (skF t L 1600 e1) = true) (g2 : (plG t L c F1 (skF t L 1600 e1 + 2) F' e ∧ ∀ σ', rfS σ σ' → σ' 149 13 = e → (0 ≤ e ∧ e ≤ L) → σ' 149 15 = 0 → σ' 149 16 = σ 149 16 → σ' 149 19 = σ 149 19 → rSt σ' (c + 1) F' → K none (T0 n) σ') ∨ ∃ k p, plB t L c F1 (skF t L 1600 e1 + 2) k p ∧ ∀ σ', rfS σ σ' → σ' 149 15 = k → k ≠ 0 → σ' 149 16 = p → K none (T0 n) σ') : Rn 187 0 [some (vR 149), none, none, none, none] [] (T0 n) σ K := by
  have r2 := h.2.1
  have c0 := hS.2.1
  refine x187a h ha a0 a1 h0 hw hS c1 g1 y2 (fun σ1 f1 f2 f3 f4 f5 f6 f7 => ?_)
  generalize hA : skF t L 1600 e1 + 2 = A at *
  have R1 : rOk σ1 t L := rOk_c h (f2 12 (by decide) (by decide)) (f1 154 (by decide) (by decide)) (f1 156 (by decide) (by decide))
  have q15 : σ1 149 15 = 0 := by rw [f2 15 (by decide) (by decide), h0]
  have q18 : σ1 149 18 = c := by rw [f2 18 (by decide) (by decide), hS.1]
  have fS1 : rfS σ σ1 := ⟨fun q a _ b => f1 q a b, fun j a b _ _ _ _ => f2 j a b⟩
  have F1o : ∀ j, j < 240 + 6 * c → F1 j = F j := fun j hj => by rw [g1.2.2.2.2.2]; exact nmSt_o (Or.inl hj)
  have P1 : ∀ q, 0 ≤ q → q < c → σ1 157 (3 * q) = F1 (40 + q) ∧ σ1 157 (3 * q + 1) = F1 (80 + q) ∧ σ1 157 (3 * q + 2) = F1 (120 + q) := fun q q0 q1 => by
    rw [f1 157 (by decide) (by decide), F1o _ (by omega), F1o _ (by omega), F1o _ (by omega)]; exact hS.2.2.2.1 q q0 q1
  -- a fault of a number
  have nb : ∀ (A2 k p i b : Int) (u x : Option sxV) (σ2 : sxS), rOk σ2 t L → σ2 149 13 = A2 → 0 ≤ A2 → A2 ≤ L → σ2 149 15 = 0 → nP t L A2 → 0 ≤ i → i < 3 → numB t L A2 k p → rfS σ σ2 → (∀ σ', rfS σ σ' → σ' 149 15 = k → k ≠ 0 → σ' 149 16 = p → K none (T0 n) σ') → Rn 187 40 [some (vR 149), some (vI b), some (vI i), u, x] [] (T0 n) σ2 K := fun A2 k p i b u x σ2 R2 m1 m2 m3 m4 m5 m6 m7 m8 m9 mB => x187t R2 m1 m2 m3 m4 m5 m6 m7 m8 (fun σ3 s1 s2 s3 => mB σ3 (rfS_tr m9 (rfS_0 s1)) s2 (numB_k m8) s3)
  have three : ∀ x y z b1 b2 b3, numG t L A x b1 → numG t L b1 y b2 → numG t L b2 z b3 → (∀ σ4, rfS σ σ4 → σ4 149 13 = b3 → (0 ≤ b3 ∧ b3 ≤ L) → σ4 149 15 = 0 → σ4 149 16 = σ 149 16 → σ4 149 18 = c → σ4 149 19 = σ 149 19 → (∀ q, 0 ≤ q → q < c → (pq σ4 q c ↔ F1 (40 + q) = x ∧ F1 (80 + q) = y ∧ F1 (120 + q) = z)) → (∀ j, 0 ≤ j → j < 6 * c + 6 → σ4 158 j = F1 (240 + j)) → (∀ q, 0 ≤ q → q < c + 1 → σ4 157 (3 * q) = plSt F1 c x y z (40 + q) ∧ σ4 157 (3 * q + 1) = plSt F1 c x y z (80 + q) ∧ σ4 157 (3 * q + 2) = plSt F1 c x y z (120 + q)) → Rn 187 89 [some (vR 149), some (vI (skF t L 1600 A)), some (vI 0), some (vI z), none] [] (T0 n) σ4 K) → Rn 187 40 [some (vR 149), some (vI 0), some (vI 0), none, none] [] (T0 n) σ1 K := by
    intro x y z b1 b2 b3 n1 n2 n3 hT
    have j1 := numG_in r2.2 f4.1 f4.2 n1
    have j2 := numG_in r2.2 (by omega) (by omega) n2
    have j3 := numG_in r2.2 (by omega) (by omega) n3
    refine x187s R1 f3 f4.1 f4.2 q15 f5 q18 c0.1 c1 (i := 0) (by omega) (by omega) n1 (fun σ2 m1 m2 m3 m4 => ?_)
    rw [if_pos rfl]
    have R2 := rOk_c R1 (m2 12 (by decide) (by decide)) (m1 154 (by decide) (by decide)) (m1 156 (by decide) (by decide))
    refine x187s R2 m3 (by omega) (by omega) (by rw [m2 15 (by decide) (by decide), q15]) (Or.inr j1.2) (by rw [m2 18 (by decide) (by decide), q18]) c0.1 c1 (i := 1) (by omega) (by omega) n2 (fun σ3 s1 s2 s3 s4 => ?_)
    rw [if_neg (by decide)]
    have R3 := rOk_c R2 (s2 12 (by decide) (by decide)) (s1 154 (by decide) (by decide)) (s1 156 (by decide) (by decide))
    refine x187s R3 s3 (by omega) (by omega) (by rw [s2 15 (by decide) (by decide), m2 15 (by decide) (by decide), q15]) (Or.inr j2.2) (by rw [s2 18 (by decide) (by decide), m2 18 (by decide) (by decide), q18]) c0.1 c1 (i := 2) (by omega) (by omega) n3 (fun σ4 v1 v2 v3 v4 => ?_)
    rw [if_neg (by decide)]
    have ch : ∀ j, j ≠ 13 → j ≠ 14 → σ4 149 j = σ 149 j := fun j a b => by rw [v2 j a b, s2 j a b, m2 j a b, f2 j a b]
    have E : σ4 157 = up1 (up1 (up1 (σ1 157) (3 * c + 0) x) (3 * c + 1) y) (3 * c + 2) z := by rw [v4, s4, m4]
    have Eo : ∀ j, j < 3 * c → σ4 157 j = σ1 157 j := fun j hj => by rw [E, up1_n (by omega), up1_n (by omega), up1_n (by omega)]
    have E0 : σ4 157 (3 * c) = x := by rw [E, up1_n (by omega), up1_n (by omega), Int.add_zero, up1_s]
    have E1 : σ4 157 (3 * c + 1) = y := by rw [E, up1_n (by omega), up1_s]
    have E2 : σ4 157 (3 * c + 2) = z := by rw [E, up1_s]
    have nx := hT σ4 (rfS_tr fS1 ⟨fun q a b _ => by rw [v1 q a b, s1 q a b, m1 q a b], fun j a b _ _ _ _ => by rw [v2 j a b, s2 j a b, m2 j a b]⟩) v3 (by omega) (by rw [ch 15 (by decide) (by decide), h0]) (ch 16 (by decide) (by decide)) (by rw [ch 18 (by decide) (by decide), hS.1]) (ch 19 (by decide) (by decide)) (fun q q0 q1 => by
      obtain ⟨p1, p2, p3⟩ := P1 q q0 q1
      unfold pq
      rw [Eo (3 * q) (by omega), Eo (3 * q + 1) (by omega), Eo (3 * q + 2) (by omega), E0, E1, E2, p1, p2, p3]) (fun j j0 j1 => by rw [v1 158 (by decide) (by decide), s1 158 (by decide) (by decide), m1 158 (by decide) (by decide)]; exact f6 j j0 j1) (fun q q0 q1 => by
      by_cases w : q = c
      · rw [w, E0, E1, E2, plSt_x, plSt_y, plSt_z]; exact ⟨rfl, rfl, rfl⟩
      · rw [Eo _ (by omega), Eo _ (by omega), Eo _ (by omega), plSt_o (by omega), plSt_o (by omega), plSt_o (by omega)]; exact P1 q q0 (by omega))
    rw [show (2 : Int) + 1 = 3 from rfl, s187_40]
    simp only [s187_41, s187_42, s187_87, s187_88, Int.reduceToNat, Int.reducePow, Nat.reducePow, Int.reduceLE, Int.reduceLT, Int.reduceNeg, Int.reduceEq, Int.reduceNe, Int.reduceAdd, Int.reduceSub, Int.reduceMul, and_self, sx_push, tf, List.length_cons, List.length_nil, Option.some.injEq, exists_eq_left', Nat.reduceAdd, Nat.reduceLeDiff, true_and, and_true, true_or, or_true, Int.zero_add, Nat.zero_le, eq_self, ne_eq, not_true_eq_false, not_false_eq_true, false_implies, true_implies, implies_true, b2i_0, b2i_1, b2i_01, up_sc, sc_at, sc_sc, ite_true, ite_false, if_true, if_false, Nat.reduceEqDiff, reduceIte]
    repeat' (first | intro _ | refine And.intro ?_ ?_)
    all_goals first | omega | exact nx
  have end168 : ∀ (σ4 : sxS) (b : Int) (u x : Option sxV), σ4 149 18 = c → K none (T0 n) (sc σ4 149 (up1 (σ4 149) 18 (c + 1))) → Rn 187 168 [some (vR 149), some (vI b), some (vI c), u, x] [] (T0 n) σ4 K := by
    intro σ4 b u x h18 hk
    simp only [s187_168, s187_169, s187_170, s187_173, s187_174, s187_175, s187_178, Int.reduceToNat, Int.reducePow, Nat.reducePow, Int.reduceLE, Int.reduceLT, Int.reduceNeg, Int.reduceEq, Int.reduceNe, Int.reduceAdd, Int.reduceSub, Int.reduceMul, and_self, sx_push, tf, List.length_cons, List.length_nil, Option.some.injEq, exists_eq_left', Nat.reduceAdd, Nat.reduceLeDiff, true_and, and_true, true_or, or_true, Int.zero_add, Nat.zero_le, eq_self, ne_eq, not_true_eq_false, not_false_eq_true, false_implies, true_implies, implies_true, b2i_0, b2i_1, b2i_01, up_sc, sc_at, sc_sc, ite_true, ite_false, if_true, if_false, Nat.reduceEqDiff, reduceIte, h18]
    repeat' (first | intro _ | refine And.intro ?_ ?_)
    all_goals first | omega | exact hk
  rcases g2 with ⟨g2, hK⟩ | ⟨k, p, g2, hK0⟩
  · have g2' := g2
    obtain ⟨x, y, z, b1, b2, n1, n2, n3, n4, n5⟩ := g2'
    refine three x y z b1 b2 e n1 n2 n3 (fun σ4 w1 w2 w3 w4 w5 w6 w7 w8 w9 w10 => ?_)
    refine x187l w6 c1 c.toNat 0 _ _ (by omega) (by omega) (fun r r0 r1 w => n4 r r0 r1 ((w8 r r0 r1).mp w)) (fun u x' => ?_)
    have g149 : ∀ q, q ≠ 149 → sc σ4 149 (up1 (σ4 149) 18 (c + 1)) q = σ4 q := fun q hq => by rw [sc_at, if_neg hq]
    have gj : ∀ j, j ≠ 18 → sc σ4 149 (up1 (σ4 149) 18 (c + 1)) 149 j = σ4 149 j := fun j hj => by rw [sc_at, if_pos rfl, up1_n hj]
    refine end168 σ4 _ _ _ w6 (hK _ (rfS_tr w1 ⟨fun q a _ _ => g149 q a, fun j _ _ _ _ a _ => gj j a⟩) (by rw [gj 13 (by decide), w2]) w3 (by rw [gj 15 (by decide), w4]) (by rw [gj 16 (by decide), w5]) (by rw [gj 19 (by decide), w7]) ⟨by rw [sc_at, if_pos rfl, up1_s], by omega, ?_, ?_, ?_⟩)
    · intro j j0 j1
      rw [g149 158 (by decide), n5, plSt_o (by omega)]; exact w9 j j0 (by omega)
    · rw [g149 157 (by decide), n5]; exact w10
    · rw [n5]
      intro p k p0 p1 k0 k5
      rw [plSt_o (by omega)]; exact f7 p k p0 p1 k0 k5
  · have g2' := g2
    rcases g2' with B | ⟨x, b1, n1, B⟩
    · exact nb A k p 0 0 none none σ1 R1 f3 f4.1 f4.2 q15 f5 (by omega) (by omega) B fS1 hK0
    have j1 := numG_in r2.2 f4.1 f4.2 n1
    rcases B with B | ⟨y, b2, n2, B⟩
    · refine x187s R1 f3 f4.1 f4.2 q15 f5 q18 c0.1 c1 (i := 0) (by omega) (by omega) n1 (fun σ2 m1 m2 m3 m4 => ?_)
      have R2 := rOk_c R1 (m2 12 (by decide) (by decide)) (m1 154 (by decide) (by decide)) (m1 156 (by decide) (by decide))
      exact nb b1 k p _ _ _ _ σ2 R2 m3 (by omega) (by omega) (by rw [m2 15 (by decide) (by decide), q15]) (Or.inr j1.2) (by omega) (by omega) B (rfS_tr fS1 ⟨fun q a b _ => m1 q a b, fun j a b _ _ _ _ => m2 j a b⟩) hK0
    have j2 := numG_in r2.2 (by omega) (by omega) n2
    rcases B with B | ⟨z, b3, n3, dd, rfl, rfl⟩
    · refine x187s R1 f3 f4.1 f4.2 q15 f5 q18 c0.1 c1 (i := 0) (by omega) (by omega) n1 (fun σ2 m1 m2 m3 m4 => ?_)
      have R2 := rOk_c R1 (m2 12 (by decide) (by decide)) (m1 154 (by decide) (by decide)) (m1 156 (by decide) (by decide))
      refine x187s R2 m3 (by omega) (by omega) (by rw [m2 15 (by decide) (by decide), q15]) (Or.inr j1.2) (by rw [m2 18 (by decide) (by decide), q18]) c0.1 c1 (i := 0 + 1) (by omega) (by omega) n2 (fun σ3 s1 s2 s3 s4 => ?_)
      have R3 := rOk_c R2 (s2 12 (by decide) (by decide)) (s1 154 (by decide) (by decide)) (s1 156 (by decide) (by decide))
      exact nb b2 k p _ _ _ _ σ3 R3 s3 (by omega) (by omega) (by rw [s2 15 (by decide) (by decide), m2 15 (by decide) (by decide), q15]) (Or.inr j2.2) (by omega) (by omega) B (rfS_tr (rfS_tr fS1 ⟨fun q a b _ => m1 q a b, fun j a b _ _ _ _ => m2 j a b⟩) ⟨fun q a b _ => s1 q a b, fun j a b _ _ _ _ => s2 j a b⟩) hK0
    · refine three x y z b1 b2 b3 n1 n2 n3 (fun σ4 w1 w2 w3 w4 w5 w6 w7 w8 w9 w10 => ?_)
      refine x187d w6 c1 w4 (fun u x' => ?_) c.toNat 0 _ _ (by omega) (by omega) (by
        obtain ⟨q, q0, q1, q2⟩ := dd
        exact ⟨q, q0, q1, (w8 q q0 q1).mpr q2⟩)
      refine end168 _ _ _ _ (by rw [sc_at, if_pos rfl, up1_n (by decide), up1_n (by decide), w6]) (hK0 _ (rfS_tr w1 ⟨fun q a _ _ => by rw [sc_at, if_neg a, sc_at, if_neg a], fun j _ _ a b d _ => by rw [sc_at, if_pos rfl, up1_n d, sc_at, if_pos rfl, up1_n b, up1_n a]⟩) (by rw [sc_at, if_pos rfl, up1_n (by decide), sc_at, if_pos rfl, up1_n (by decide), up1_s]) (by decide) (by rw [sc_at, if_pos rfl, up1_n (by decide), sc_at, if_pos rfl, up1_s]))
end SD
