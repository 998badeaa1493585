/-! images: the methods of the reference -/
theorem pw_S {l : Int} (h : 0 ≤ l) : (2 : Int) ^ (l + 1).toNat = 2 * 2 ^ l.toNat := by
  rw [show (l + 1).toNat = l.toNat + 1 by omega, Int.pow_succ]; omega
section O3
variable {n : Nat} {c : Int} {σ : sxS} {K : Option sxV → sxT → sxS → Prop} {t g : Int → Int}
theorem x284z {m : Int} : ∀ (k : Nat) (i : Int), i + k = 481 → 0 ≤ i → Rn 284 24 [some (vR 149), some (vI m), some (vI (-1)), some (vI 481), none, none] [] (T0 n) (sc σ 150 (cpF (fun _ => 0) (σ 150) 481)) K → Rn 284 4 [some (vR 149), some (vI m), some (vI (-1)), some (vI i), none, none] [] (T0 n) (sc σ 150 (cpF (fun _ => 0) (σ 150) i)) K := by
  intro k
  induction k with
  | zero =>
    intro i hi i0 hK
    obtain rfl : i = 481 := by omega
    rw [s284_4]
    simp only [s284_5, s284_8, sx_push, tf, List.length_cons, List.length_nil, Option.some.injEq, exists_eq_left', Nat.reduceAdd, Nat.reduceLeDiff, true_and, and_true, true_or, or_true, Int.zero_add, Nat.zero_le, eq_self, ne_eq, not_true_eq_false, not_false_eq_true, false_implies, true_implies, implies_true, b2i_0, b2i_1, b2i_01, up_sc, sc_at, sc_sc, ite_true, ite_false, if_true, if_false, Nat.reduceEqDiff, reduceIte]
    repeat' (first | intro _ | refine And.intro ?_ ?_)
    all_goals first | omega | exact hK
  | succ k ih =>
    intro i hi i0 hK
    rw [s284_4]
    simp only [s284_5, s284_8, s284_11, s284_12, s284_15, s284_16, s284_17, s284_18, s284_21, sx_push, tf, List.length_cons, List.length_nil, Option.some.injEq, exists_eq_left', Nat.reduceAdd, Nat.reduceLeDiff, true_and, and_true, true_or, or_true, Int.zero_add, Nat.zero_le, eq_self, ne_eq, not_true_eq_false, not_false_eq_true, false_implies, true_implies, implies_true, b2i_0, b2i_1, b2i_01, up_sc, sc_at, sc_sc, ite_true, ite_false, if_true, if_false, Nat.reduceEqDiff, reduceIte, cpF_s (g := fun _ => (0 : Int)) i0]
    repeat' (first | intro _ | refine And.intro ?_ ?_)
    all_goals first | omega | exact ih (i + 1) (by omega) (by omega) hK
theorem x284l {M : Int} (hM : M ≤ 40) (ht : ∀ j, 2 ≤ j → j < 2 + 6 * M → in8 (t j)) : ∀ (k : Nat) (i l : Int) (σ : sxS) (u v : Option sxV), i + k = M → 0 ≤ i → -1 ≤ l → l ≤ 39 → σ 154 = t → (syJ t k i l = true → dfJ t k i (σ 150) = true → K (some (vI 1)) (T0 n) (sc σ 150 (gJ t k i (σ 150)))) → (¬ (syJ t k i l = true ∧ dfJ t k i (σ 150) = true) → ∀ σ', (∀ j, j ≠ 150 → σ' j = σ j) → K (some (vI 0)) (T0 n) σ') → Rn 284 40 [some (vR 149), some (vI M), some (vI l), some (vI i), u, v] [] (T0 n) σ K := by
  intro k
  induction k with
  | zero =>
    intro i l σ u v hi i0 l0 l1 h4 hK1 hK0
    obtain rfl : i = M := by omega
    have := hK1 rfl rfl
    rw [show gJ t 0 i (σ 150) = σ 150 from rfl, sc_id] at this
    rw [s284_40]
    simp only [s284_41, s284_42, s284_261, s284_262, sx_push, tf, List.length_cons, List.length_nil, Option.some.injEq, exists_eq_left', Nat.reduceAdd, Nat.reduceLeDiff, true_and, and_true, true_or, or_true, Int.zero_add, Nat.zero_le, eq_self, ne_eq, not_true_eq_false, not_false_eq_true, false_implies, true_implies, implies_true, b2i_0, b2i_1, b2i_01, up_sc, sc_at, sc_sc, ite_true, ite_false, if_true, if_false, Nat.reduceEqDiff, reduceIte]
    repeat' (first | intro _ | refine And.intro ?_ ?_)
    all_goals first | omega | exact this
  | succ k ih =>
    intro i l σ u v hi i0 l0 l1 h4 hK1 hK0
    unfold syJ dfJ at hK1 hK0
    have b0 := ht (2 + 6 * i) (by omega) (by omega)
    have b1 := ht (2 + 6 * i + 1) (by omega) (by omega)
    have b2 := ht (2 + 6 * i + 2) (by omega) (by omega)
    have b3 := ht (2 + 6 * i + 3) (by omega) (by omega)
    have b4 := ht (2 + 6 * i + 4) (by omega) (by omega)
    have b5 := ht (2 + 6 * i + 5) (by omega) (by omega)
    unfold in8 at b0 b4 b5
    rw [s284_40]
    by_cases e1 : l < t (2 + 6 * i) ∧ t (2 + 6 * i) ≤ 39
    · by_cases e2 : t (2 + 6 * i + 4) ≤ 10
      · rw [if_pos ⟨e1, e2⟩] at hK1 hK0
        by_cases e3 : ptF (σ 150) (t (2 + 6 * i + 1)) (t (2 + 6 * i + 2)) (t (2 + 6 * i + 3)) = -1
        · rw [if_pos e3] at hK1 hK0
          unfold ptF at e3
          have main : Rn 284 40 [some (vR 149), some (vI M), some (vI (t (2 + 6 * i))), some (vI (i + 1)), some (vI (2 + 6 * i)), some (vI (t (2 + 6 * i)))] [] (T0 n) (sc σ 150 (gU t (σ 150) i)) K := by
            refine ih (i + 1) _ _ _ _ (by omega) (by omega) (by omega) (by omega) (by simpa [sc_at] using h4) ?_ ?_
            · simp only [sc_at, reduceIte, sc_sc]; exact hK1
            · simp only [sc_at, reduceIte]
              exact fun h σ' h' => hK0 h σ' (fun j hj => by rw [h' j hj, if_neg hj])
          unfold gU at main
          by_cases e5 : t (2 + 6 * i + 5) = 255
          · rw [if_pos e5] at main
            simp only [s284_41, s284_42, s284_45, s284_46, s284_48, s284_49, s284_50, s284_51, s284_53, s284_54, s284_57, s284_59, s284_60, s284_62, s284_64, s284_65, s284_66, s284_67, s284_69, s284_72, s284_75, s284_76, s284_77, s284_80, s284_82, s284_83, s284_84, s284_85, s284_86, s284_89, s284_91, s284_92, s284_93, s284_94, s284_95, s284_98, s284_100, s284_101, s284_102, s284_103, s284_106, s284_107, s284_110, s284_111, s284_114, s284_116, s284_117, s284_118, s284_119, s284_121, s284_124, s284_125, s284_126, s284_128, s284_129, s284_130, s284_133, s284_134, s284_136, s284_137, s284_138, s284_139, s284_140, s284_143, s284_145, s284_147, s284_148, s284_149, s284_152, s284_154, s284_155, s284_156, s284_157, s284_158, s284_159, s284_162, s284_164, s284_166, s284_167, s284_168, s284_171, s284_173, s284_174, s284_175, s284_176, s284_177, s284_178, s284_181, s284_183, s284_185, s284_186, s284_187, s284_190, s284_192, s284_193, s284_194, s284_195, s284_196, s284_197, s284_200, s284_203, s284_205, s284_206, s284_207, s284_210, s284_212, s284_213, s284_214, s284_215, s284_216, s284_217, s284_220, s284_223, s284_225, s284_226, s284_227, s284_230, s284_232, s284_233, s284_234, s284_235, s284_238, s284_241, s284_242, s284_245, s284_246, s284_249, s284_251, s284_252, s284_253, s284_254, s284_255, s284_258, sx_push, tf, List.length_cons, List.length_nil, Option.some.injEq, exists_eq_left', Nat.reduceAdd, Nat.reduceLeDiff, true_and, and_true, true_or, or_true, Int.zero_add, Nat.zero_le, eq_self, ne_eq, not_true_eq_false, not_false_eq_true, false_implies, true_implies, implies_true, b2i_0, b2i_1, b2i_01, up_sc, sc_at, sc_sc, ite_true, ite_false, if_true, if_false, Nat.reduceEqDiff, reduceIte, h4, x185, x213, e3, e5]
            repeat' (first | intro _ | refine And.intro ?_ ?_)
            all_goals first | omega | exact main
          · rw [if_neg e5] at main
            simp only [s284_41, s284_42, s284_45, s284_46, s284_48, s284_49, s284_50, s284_51, s284_53, s284_54, s284_57, s284_59, s284_60, s284_62, s284_64, s284_65, s284_66, s284_67, s284_69, s284_72, s284_75, s284_76, s284_77, s284_80, s284_82, s284_83, s284_84, s284_85, s284_86, s284_89, s284_91, s284_92, s284_93, s284_94, s284_95, s284_98, s284_100, s284_101, s284_102, s284_103, s284_106, s284_107, s284_110, s284_111, s284_114, s284_116, s284_117, s284_118, s284_119, s284_121, s284_124, s284_125, s284_126, s284_128, s284_129, s284_130, s284_133, s284_134, s284_136, s284_137, s284_138, s284_139, s284_140, s284_143, s284_145, s284_147, s284_148, s284_149, s284_152, s284_154, s284_155, s284_156, s284_157, s284_158, s284_159, s284_162, s284_164, s284_166, s284_167, s284_168, s284_171, s284_173, s284_174, s284_175, s284_176, s284_177, s284_178, s284_181, s284_183, s284_185, s284_186, s284_187, s284_190, s284_192, s284_193, s284_194, s284_195, s284_196, s284_197, s284_200, s284_203, s284_205, s284_206, s284_207, s284_210, s284_212, s284_213, s284_214, s284_215, s284_216, s284_217, s284_220, s284_223, s284_225, s284_226, s284_227, s284_230, s284_232, s284_233, s284_234, s284_235, s284_238, s284_241, s284_242, s284_245, s284_246, s284_249, s284_251, s284_252, s284_253, s284_254, s284_255, s284_258, sx_push, tf, List.length_cons, List.length_nil, Option.some.injEq, exists_eq_left', Nat.reduceAdd, Nat.reduceLeDiff, true_and, and_true, true_or, or_true, Int.zero_add, Nat.zero_le, eq_self, ne_eq, not_true_eq_false, not_false_eq_true, false_implies, true_implies, implies_true, b2i_0, b2i_1, b2i_01, up_sc, sc_at, sc_sc, ite_true, ite_false, if_true, if_false, Nat.reduceEqDiff, reduceIte, h4, x185, x213, e3]
            repeat' (first | intro _ | refine And.intro ?_ ?_)
            all_goals first | omega | exact main
        · rw [if_neg e3] at hK0
          unfold ptF at e3
          have hK := hK0 (fun z => (by cases z.2)) σ (fun j _ => rfl)
          simp only [s284_41, s284_42, s284_45, s284_46, s284_48, s284_49, s284_50, s284_51, s284_53, s284_54, s284_57, s284_59, s284_60, s284_62, s284_64, s284_65, s284_66, s284_67, s284_69, s284_72, s284_75, s284_76, s284_77, s284_80, s284_82, s284_83, s284_84, s284_85, s284_86, s284_89, s284_91, s284_92, s284_93, s284_94, s284_95, s284_98, s284_100, s284_101, s284_102, s284_103, s284_106, s284_107, s284_110, s284_111, s284_114, s284_116, s284_117, s284_118, s284_119, s284_121, s284_124, s284_125, sx_push, tf, List.length_cons, List.length_nil, Option.some.injEq, exists_eq_left', Nat.reduceAdd, Nat.reduceLeDiff, true_and, and_true, true_or, or_true, Int.zero_add, Nat.zero_le, eq_self, ne_eq, not_true_eq_false, not_false_eq_true, false_implies, true_implies, implies_true, b2i_0, b2i_1, b2i_01, up_sc, sc_at, sc_sc, ite_true, ite_false, if_true, if_false, Nat.reduceEqDiff, reduceIte, h4, x185, x213]
          repeat' (first | intro _ | refine And.intro ?_ ?_)
          all_goals first | omega | exact hK
      · rw [if_neg (fun z => e2 z.2)] at hK0
        have hK := hK0 (fun z => (by cases z.1)) σ (fun j _ => rfl)
        simp only [s284_41, s284_42, s284_45, s284_46, s284_48, s284_49, s284_50, s284_51, s284_53, s284_54, s284_57, s284_59, s284_60, s284_62, s284_64, s284_65, s284_66, s284_67, s284_69, s284_72, s284_75, s284_76, s284_77, s284_80, s284_82, s284_83, s284_84, s284_85, s284_86, s284_89, s284_91, s284_92, s284_93, s284_94, s284_95, s284_98, s284_100, s284_101, s284_102, s284_103, s284_106, s284_107, s284_110, s284_111, s284_114, s284_116, s284_117, s284_118, s284_119, s284_121, s284_124, s284_125, sx_push, tf, List.length_cons, List.length_nil, Option.some.injEq, exists_eq_left', Nat.reduceAdd, Nat.reduceLeDiff, true_and, and_true, true_or, or_true, Int.zero_add, Nat.zero_le, eq_self, ne_eq, not_true_eq_false, not_false_eq_true, false_implies, true_implies, implies_true, b2i_0, b2i_1, b2i_01, up_sc, sc_at, sc_sc, ite_true, ite_false, if_true, if_false, Nat.reduceEqDiff, reduceIte, h4, x185, x213]
        repeat' (first | intro _ | refine And.intro ?_ ?_)
        all_goals first | omega | exact hK
    · rw [if_neg (fun z => e1 z.1)] at hK0
      have hK := hK0 (fun z => (by cases z.1)) σ (fun j _ => rfl)
      simp only [s284_41, s284_42, s284_45, s284_46, s284_48, s284_49, s284_50, s284_51, s284_53, s284_54, s284_57, s284_59, s284_60, s284_62, s284_64, s284_65, s284_66, s284_67, s284_69, s284_72, s284_75, s284_76, s284_77, s284_80, s284_82, s284_83, s284_84, s284_85, s284_86, s284_89, s284_91, s284_92, s284_93, s284_94, s284_95, s284_98, s284_100, s284_101, s284_102, s284_103, s284_106, s284_107, s284_110, s284_111, s284_114, s284_116, s284_117, s284_118, s284_119, s284_121, s284_124, s284_125, sx_push, tf, List.length_cons, List.length_nil, Option.some.injEq, exists_eq_left', Nat.reduceAdd, Nat.reduceLeDiff, true_and, and_true, true_or, or_true, Int.zero_add, Nat.zero_le, eq_self, ne_eq, not_true_eq_false, not_false_eq_true, false_implies, true_implies, implies_true, b2i_0, b2i_1, b2i_01, up_sc, sc_at, sc_sc, ite_true, ite_false, if_true, if_false, Nat.reduceEqDiff, reduceIte, h4, x185, x213]
      repeat' (first | intro _ | refine And.intro ?_ ?_)
      all_goals first | omega | exact hK
def g0F (t : Int → Int) (f : Int → Int) : Int → Int := up1 (cpF (fun _ => 0) f 481) 480 (t 0)
theorem x284 {M : Nat} (hM : (M : Int) ≤ 40) (ht : ∀ j, 2 ≤ j → j < 2 + 6 * (M : Int) → in8 (t j)) (h4 : σ 154 = t) (hK1 : syJ t M 0 (-1) = true → dfJ t M 0 (g0F t (σ 150)) = true → K (some (vI 1)) (T0 n) (sc σ 150 (gJ t M 0 (g0F t (σ 150))))) (hK0 : ¬ (syJ t M 0 (-1) = true ∧ dfJ t M 0 (g0F t (σ 150)) = true) → ∀ σ', (∀ j, j ≠ 150 → σ' j = σ j) → K (some (vI 0)) (T0 n) σ') : Rn 284 0 [some (vR 149), some (vI M), none, none, none, none] [] (T0 n) σ K := by
  have z := x284z (n := n) (σ := σ) (K := K) (m := M) 481 0 (by omega) (by omega)
  rw [cpF_0, sc_id] at z
  simp only [s284_0, s284_1, s284_2, s284_3, sx_push, tf, List.length_cons, List.length_nil, Option.some.injEq, exists_eq_left', Nat.reduceAdd, Nat.reduceLeDiff, true_and, and_true, true_or, or_true, Int.zero_add, Nat.zero_le, eq_self, ne_eq, not_true_eq_false, not_false_eq_true, false_implies, true_implies, implies_true, b2i_0, b2i_1, b2i_01, up_sc, sc_at, sc_sc, ite_true, ite_false, if_true, if_false, Nat.reduceEqDiff, reduceIte]
  refine z ?_
  simp only [s284_24, s284_25, s284_28, s284_31, s284_32, s284_35, s284_36, s284_37, s284_38, s284_39, sx_push, tf, List.length_cons, List.length_nil, Option.some.injEq, exists_eq_left', Nat.reduceAdd, Nat.reduceLeDiff, true_and, and_true, true_or, or_true, Int.zero_add, Nat.zero_le, eq_self, ne_eq, not_true_eq_false, not_false_eq_true, false_implies, true_implies, implies_true, b2i_0, b2i_1, b2i_01, up_sc, sc_at, sc_sc, ite_true, ite_false, if_true, if_false, Nat.reduceEqDiff, reduceIte, h4]
  repeat' (first | intro _ | refine And.intro ?_ ?_)
  all_goals first | omega | skip
  refine x284l hM ht M 0 (-1) _ _ _ (by omega) (by omega) (by omega) (by omega) (by simpa [sc_at] using h4) ?_ ?_
  · simp only [sc_at, reduceIte, sc_sc]; exact hK1
  · simp only [sc_at, reduceIte]
    exact fun h σ' h' => hK0 h σ' (fun j hj => by rw [h' j hj, if_neg hj])
theorem x285a (hg : σ 150 = g) (ok : rdOk t g 39) (hw : wfc g) : ∀ (k : Nat) (p a : Int) (u v : Option sxV), p + k = 40 → 0 ≤ p → 0 ≤ a → a ≤ p → ((∀ q, p ≤ q → q < 40 → g q = 1 → nkP g q) → ∀ u v, Rn 285 120 [some (vR 149), some (vI (tenF g k p a)), some (vI 40), u, v] [] (T0 n) σ K) → ((∃ q, p ≤ q ∧ q < 40 ∧ g q = 1 ∧ ¬ nkP g q) → K (some (vI 0)) (T0 n) σ) → Rn 285 4 [some (vR 149), some (vI a), some (vI p), u, v] [] (T0 n) σ K := by
  intro k
  induction k with
  | zero =>
    intro p a u v hp p0 a0 a1 hK1 hK0
    obtain rfl : p = 40 := by omega
    have := hK1 (fun q q0 q1 => by omega) u v
    rw [s285_4]
    simp only [s285_5, s285_7, sx_push, tf, List.length_cons, List.length_nil, Option.some.injEq, exists_eq_left', Nat.reduceAdd, Nat.reduceLeDiff, true_and, and_true, true_or, or_true, Int.zero_add, Nat.zero_le, eq_self, ne_eq, not_true_eq_false, not_false_eq_true, false_implies, true_implies, implies_true, b2i_0, b2i_1, b2i_01, up_sc, sc_at, sc_sc, ite_true, ite_false, if_true, if_false, Nat.reduceEqDiff, reduceIte]
    repeat' (first | intro _ | refine And.intro ?_ ?_)
    all_goals first | omega | exact this
  | succ k ih =>
    intro p a u v hp p0 a0 a1 hK1 hK0
    have p1 : p < 40 := by omega
    unfold tenF at hK1
    rw [s285_4]
    have o := ok p p0 p1
    have nx : (g p = 1 → nkP g p) → (∀ q, p + 1 ≤ q → q < 40 → g q = 1 → nkP g q) → ∀ q, p ≤ q → q < 40 → g q = 1 → nkP g q := fun h h2 q q0 q1 hq => by
      by_cases z : q = p
      · rw [z] at hq ⊢; exact h hq
      · exact h2 q (by omega) q1 hq
    have nx0 : (∃ q, p + 1 ≤ q ∧ q < 40 ∧ g q = 1 ∧ ¬ nkP g q) → K (some (vI 0)) (T0 n) σ := fun ⟨q, q0, q1, q2, q3⟩ => hK0 ⟨q, by omega, q1, q2, q3⟩
    rcases o.1 with e | ⟨e, _⟩
    · rw [if_neg (fun z => by omega)] at hK1
      have main := fun u v => ih (p + 1) a u v (by omega) (by omega) a0 (by omega) (fun h => hK1 (nx (fun z => by omega) h)) nx0
      simp only [s285_5, s285_7, s285_10, s285_11, s285_14, s285_15, s285_16, s285_17, s285_18, s285_21, s285_114, s285_117, sx_push, tf, List.length_cons, List.length_nil, Option.some.injEq, exists_eq_left', Nat.reduceAdd, Nat.reduceLeDiff, true_and, and_true, true_or, or_true, Int.zero_add, Nat.zero_le, eq_self, ne_eq, not_true_eq_false, not_false_eq_true, false_implies, true_implies, implies_true, b2i_0, b2i_1, b2i_01, up_sc, sc_at, sc_sc, ite_true, ite_false, if_true, if_false, Nat.reduceEqDiff, reduceIte, hg, e]
      repeat' (first | intro _ | refine And.intro ?_ ?_)
      all_goals first | omega | exact main _ _
    · have lv := (o.2.2.2.2 e).1
      have pa := (o.2.2.2.2 e).2
      by_cases e10 : g (160 + p) = 10
      · rw [if_pos ⟨e, e10⟩] at hK1
        by_cases ep : g (200 + p) = -1
        · have main := fun u v => ih (p + 1) (a + 1) u v (by omega) (by omega) (by omega) (by omega) (fun h => hK1 (nx (fun _ => Or.inl ⟨e10, ep⟩) h)) nx0
          simp only [s285_5, s285_7, s285_10, s285_11, s285_14, s285_15, s285_16, s285_17, s285_18, s285_21, s285_24, s285_25, s285_28, s285_31, s285_32, s285_33, s285_34, s285_35, s285_36, s285_39, s285_42, s285_43, s285_44, s285_45, s285_47, s285_50, s285_53, s285_54, s285_55, s285_114, s285_117, sx_push, tf, List.length_cons, List.length_nil, Option.some.injEq, exists_eq_left', Nat.reduceAdd, Nat.reduceLeDiff, true_and, and_true, true_or, or_true, Int.zero_add, Nat.zero_le, eq_self, ne_eq, not_true_eq_false, not_false_eq_true, false_implies, true_implies, implies_true, b2i_0, b2i_1, b2i_01, up_sc, sc_at, sc_sc, ite_true, ite_false, if_true, if_false, Nat.reduceEqDiff, reduceIte, hg, e, e10, ep]
          repeat' (first | intro _ | refine And.intro ?_ ?_)
          all_goals first | omega | exact main _ _
        · have hK := hK0 ⟨p, Int.le_refl p, p1, e, fun z => by
            rcases z with z | z
            · exact ep z.2
            · exact z.1 e10⟩
          simp only [s285_5, s285_7, s285_10, s285_11, s285_14, s285_15, s285_16, s285_17, s285_18, s285_21, s285_24, s285_25, s285_28, s285_31, s285_32, s285_33, s285_34, s285_35, s285_36, s285_39, s285_42, s285_43, s285_44, s285_45, s285_47, s285_50, s285_53, s285_54, s285_55, s285_58, s285_59, sx_push, tf, List.length_cons, List.length_nil, Option.some.injEq, exists_eq_left', Nat.reduceAdd, Nat.reduceLeDiff, true_and, and_true, true_or, or_true, Int.zero_add, Nat.zero_le, eq_self, ne_eq, not_true_eq_false, not_false_eq_true, false_implies, true_implies, implies_true, b2i_0, b2i_1, b2i_01, up_sc, sc_at, sc_sc, ite_true, ite_false, if_true, if_false, Nat.reduceEqDiff, reduceIte, hg, e, e10]
          repeat' (first | intro _ | refine And.intro ?_ ?_)
          all_goals first | omega | exact hK
      · rw [if_neg (fun z => e10 z.2)] at hK1
        have pw := pw_in (k := g (160 + p)) (by omega) (by omega)
        by_cases ec : cvP g p
        · have main := fun u v => ih (p + 1) a u v (by omega) (by omega) a0 (by omega) (fun h => hK1 (nx (fun _ => Or.inr ⟨e10, ec⟩) h)) nx0
          have ec' := ec
          obtain ⟨⟨c1, c2⟩, c3, c4⟩ := ec'
          have hx := fun K => x216o (n := n) (σ := σ) (K := K) (p := p) (q := g (200 + p)) (by rw [hg]; exact hw) p0 p1 c1.1 c1.2
          rw [hg] at hx
          simp only [s285_5, s285_7, s285_10, s285_11, s285_14, s285_15, s285_16, s285_17, s285_18, s285_21, s285_24, s285_25, s285_28, s285_31, s285_32, s285_33, s285_34, s285_35, s285_36, s285_39, s285_42, s285_43, s285_44, s285_45, s285_47, s285_60, s285_61, s285_62, s285_65, s285_68, s285_69, s285_72, s285_75, s285_76, s285_77, s285_78, s285_79, s285_82, s285_85, s285_86, s285_87, s285_88, s285_91, s285_92, s285_93, s285_94, s285_97, s285_98, s285_99, s285_102, s285_105, s285_106, s285_107, s285_108, s285_109, s285_114, s285_117, sx_push, tf, List.length_cons, List.length_nil, Option.some.injEq, exists_eq_left', Nat.reduceAdd, Nat.reduceLeDiff, true_and, and_true, true_or, or_true, Int.zero_add, Nat.zero_le, eq_self, ne_eq, not_true_eq_false, not_false_eq_true, false_implies, true_implies, implies_true, b2i_0, b2i_1, b2i_01, up_sc, sc_at, sc_sc, ite_true, ite_false, if_true, if_false, Nat.reduceEqDiff, reduceIte, hg, e, x205, hx, c1.1, c1.2, c2, and_self]
          repeat' (first | intro _ | refine And.intro ?_ ?_)
          all_goals first | omega | exact main _ _ | (exfalso; rename_i z1; exact z1 trivial)
        · have hK := hK0 ⟨p, Int.le_refl p, p1, e, fun z => by
            rcases z with z | z
            · exact e10 z.1
            · exact ec z.2⟩
          by_cases c1 : (0 ≤ g (200 + p) ∧ g (200 + p) < 40) ∧ g (g (200 + p)) = 1
          · have hx := fun K => x216o (n := n) (σ := σ) (K := K) (p := p) (q := g (200 + p)) (by rw [hg]; exact hw) p0 p1 c1.1.1 c1.1.2
            rw [hg] at hx
            by_cases c3 : g (160 + p) < g (160 + g (200 + p))
            · have c4 : ¬ farO g p (g (200 + p)) < 2 * 2 ^ (g (160 + p)).toNat := fun z => ec ⟨c1, c3, z⟩
              simp only [s285_5, s285_7, s285_10, s285_11, s285_14, s285_15, s285_16, s285_17, s285_18, s285_21, s285_24, s285_25, s285_28, s285_31, s285_32, s285_33, s285_34, s285_35, s285_36, s285_39, s285_42, s285_43, s285_44, s285_45, s285_47, s285_60, s285_61, s285_62, s285_65, s285_68, s285_69, s285_72, s285_75, s285_76, s285_77, s285_78, s285_79, s285_82, s285_85, s285_86, s285_87, s285_88, s285_91, s285_92, s285_93, s285_94, s285_97, s285_98, s285_99, s285_102, s285_105, s285_106, s285_107, s285_108, s285_109, s285_112, s285_113, sx_push, tf, List.length_cons, List.length_nil, Option.some.injEq, exists_eq_left', Nat.reduceAdd, Nat.reduceLeDiff, true_and, and_true, true_or, or_true, Int.zero_add, Nat.zero_le, eq_self, ne_eq, not_true_eq_false, not_false_eq_true, false_implies, true_implies, implies_true, b2i_0, b2i_1, b2i_01, up_sc, sc_at, sc_sc, ite_true, ite_false, if_true, if_false, Nat.reduceEqDiff, reduceIte, hg, e, x205, hx, c1.1.1, c1.1.2, c1.2, and_self]
              repeat' (first | intro _ | refine And.intro ?_ ?_)
              all_goals first | omega | exact hK | (exfalso; rename_i z1; exact z1 trivial)
            · simp only [s285_5, s285_7, s285_10, s285_11, s285_14, s285_15, s285_16, s285_17, s285_18, s285_21, s285_24, s285_25, s285_28, s285_31, s285_32, s285_33, s285_34, s285_35, s285_36, s285_39, s285_42, s285_43, s285_44, s285_45, s285_47, s285_60, s285_61, s285_62, s285_65, s285_68, s285_69, s285_72, s285_75, s285_76, s285_77, s285_78, s285_79, s285_82, s285_85, s285_86, s285_87, s285_88, s285_112, s285_113, sx_push, tf, List.length_cons, List.length_nil, Option.some.injEq, exists_eq_left', Nat.reduceAdd, Nat.reduceLeDiff, true_and, and_true, true_or, or_true, Int.zero_add, Nat.zero_le, eq_self, ne_eq, not_true_eq_false, not_false_eq_true, false_implies, true_implies, implies_true, b2i_0, b2i_1, b2i_01, up_sc, sc_at, sc_sc, ite_true, ite_false, if_true, if_false, Nat.reduceEqDiff, reduceIte, hg, e, x205, c1.1.1, c1.1.2, c1.2, and_self]
              repeat' (first | intro _ | refine And.intro ?_ ?_)
              all_goals first | omega | exact hK | (exfalso; rename_i z1; exact z1 trivial)
          · simp only [s285_5, s285_7, s285_10, s285_11, s285_14, s285_15, s285_16, s285_17, s285_18, s285_21, s285_24, s285_25, s285_28, s285_31, s285_32, s285_33, s285_34, s285_35, s285_36, s285_39, s285_42, s285_43, s285_44, s285_45, s285_47, s285_60, s285_61, s285_62, s285_65, s285_112, s285_113, sx_push, tf, List.length_cons, List.length_nil, Option.some.injEq, exists_eq_left', Nat.reduceAdd, Nat.reduceLeDiff, true_and, and_true, true_or, or_true, Int.zero_add, Nat.zero_le, eq_self, ne_eq, not_true_eq_false, not_false_eq_true, false_implies, true_implies, implies_true, b2i_0, b2i_1, b2i_01, up_sc, sc_at, sc_sc, ite_true, ite_false, if_true, if_false, Nat.reduceEqDiff, reduceIte, hg, e, x205]
            repeat' (first | intro _ | refine And.intro ?_ ?_)
            all_goals first | omega | exact hK | (exfalso; rename_i z1; exact c1 (Classical.not_not.mp z1))
def spP (g : Int → Int) (a b : Int) : Prop := 2 ^ (min (g (160 + a)) (g (160 + b))).toNat ≤ farO g a b
theorem x285i (hg : σ 150 = g) (ok : rdOk t g 39) (hw : wfc g) {w a : Int} (a0 : 0 ≤ a) (a1 : a < 40) : ∀ (k : Nat) (b : Int) (v : Option sxV), b + k = 40 → a < b → ((∀ q, b ≤ q → q < 40 → g a = 1 → g q = 1 → spP g a q) → ∀ v, Rn 285 250 [some (vR 149), some (vI w), some (vI a), some (vI 40), v] [] (T0 n) σ K) → ((∃ q, b ≤ q ∧ q < 40 ∧ g a = 1 ∧ g q = 1 ∧ ¬ spP g a q) → K (some (vI 0)) (T0 n) σ) → Rn 285 150 [some (vR 149), some (vI w), some (vI a), some (vI b), v] [] (T0 n) σ K := by
  intro k
  induction k with
  | zero =>
    intro b v hb ab hK1 hK0
    obtain rfl : b = 40 := by omega
    have := hK1 (fun q q0 q1 => by omega) v
    rw [s285_150]
    simp only [s285_151, s285_153, sx_push, tf, List.length_cons, List.length_nil, Option.some.injEq, exists_eq_left', Nat.reduceAdd, Nat.reduceLeDiff, true_and, and_true, true_or, or_true, Int.zero_add, Nat.zero_le, eq_self, ne_eq, not_true_eq_false, not_false_eq_true, false_implies, true_implies, implies_true, b2i_0, b2i_1, b2i_01, up_sc, sc_at, sc_sc, ite_true, ite_false, if_true, if_false, Nat.reduceEqDiff, reduceIte]
    repeat' (first | intro _ | refine And.intro ?_ ?_)
    all_goals first | omega | exact this
  | succ k ih =>
    intro b v hb ab hK1 hK0
    have b1 : b < 40 := by omega
    rw [s285_150]
    have nx : (g a = 1 → g b = 1 → spP g a b) → (∀ q, b + 1 ≤ q → q < 40 → g a = 1 → g q = 1 → spP g a q) → ∀ q, b ≤ q → q < 40 → g a = 1 → g q = 1 → spP g a q := fun h h2 q q0 q1 ha hq => by
      by_cases z : q = b
      · rw [z] at hq ⊢; exact h ha hq
      · exact h2 q (by omega) q1 ha hq
    have nx0 : (∃ q, b + 1 ≤ q ∧ q < 40 ∧ g a = 1 ∧ g q = 1 ∧ ¬ spP g a q) → K (some (vI 0)) (T0 n) σ := fun ⟨q, q0, q1, q2⟩ => hK0 ⟨q, by omega, q1, q2⟩
    have oa := ok a a0 a1
    have ob := ok b (by omega) b1
    rcases oa.1 with ea | ⟨ea, _⟩
    · have main := fun v => ih (b + 1) v (by omega) (by omega) (fun h => hK1 (nx (fun z => by omega) h)) nx0
      simp only [s285_151, s285_153, s285_156, s285_157, s285_160, s285_161, s285_162, s285_163, s285_164, s285_244, s285_247, sx_push, tf, List.length_cons, List.length_nil, Option.some.injEq, exists_eq_left', Nat.reduceAdd, Nat.reduceLeDiff, true_and, and_true, true_or, or_true, Int.zero_add, Nat.zero_le, eq_self, ne_eq, not_true_eq_false, not_false_eq_true, false_implies, true_implies, implies_true, b2i_0, b2i_1, b2i_01, up_sc, sc_at, sc_sc, ite_true, ite_false, if_true, if_false, Nat.reduceEqDiff, reduceIte, hg, ea]
      repeat' (first | intro _ | refine And.intro ?_ ?_)
      all_goals first | omega | exact main _
    · rcases ob.1 with eb | ⟨eb, _⟩
      · have main := fun v => ih (b + 1) v (by omega) (by omega) (fun h => hK1 (nx (fun _ z => by omega) h)) nx0
        simp only [s285_151, s285_153, s285_156, s285_157, s285_160, s285_161, s285_162, s285_163, s285_164, s285_167, s285_168, s285_171, s285_172, s285_173, s285_174, s285_175, s285_178, s285_244, s285_247, sx_push, tf, List.length_cons, List.length_nil, Option.some.injEq, exists_eq_left', Nat.reduceAdd, Nat.reduceLeDiff, true_and, and_true, true_or, or_true, Int.zero_add, Nat.zero_le, eq_self, ne_eq, not_true_eq_false, not_false_eq_true, false_implies, true_implies, implies_true, b2i_0, b2i_1, b2i_01, up_sc, sc_at, sc_sc, ite_true, ite_false, if_true, if_false, Nat.reduceEqDiff, reduceIte, hg, ea, eb]
        repeat' (first | intro _ | refine And.intro ?_ ?_)
        all_goals first | omega | exact main _
      · have la := (oa.2.2.2.2 ea).1
        have lb := (ob.2.2.2.2 eb).1
        have hx := fun K => x216o (n := n) (σ := σ) (K := K) (p := a) (q := b) (by rw [hg]; exact hw) a0 a1 (by omega) b1
        rw [hg] at hx
        by_cases es : spP g a b
        · have main := fun v => ih (b + 1) v (by omega) (by omega) (fun h => hK1 (nx (fun _ _ => es) h)) nx0
          unfold spP at es
          by_cases el : g (160 + a) < g (160 + b)
          · rw [Int.min_eq_left (by omega)] at es
            have pw := pw_in (k := g (160 + a)) (by omega) (by omega)
            simp only [s285_151, s285_153, s285_156, s285_157, s285_160, s285_161, s285_162, s285_163, s285_164, s285_167, s285_168, s285_171, s285_172, s285_173, s285_174, s285_175, s285_178, s285_181, s285_182, s285_185, s285_188, s285_189, s285_190, s285_191, s285_192, s285_195, s285_198, s285_199, s285_200, s285_201, s285_204, s285_205, s285_208, s285_211, s285_212, s285_213, s285_214, s285_217, s285_218, s285_221, s285_224, s285_225, s285_226, s285_227, s285_229, s285_230, s285_231, s285_232, s285_235, s285_236, s285_238, s285_239, s285_242, s285_243, s285_244, s285_247, sx_push, tf, List.length_cons, List.length_nil, Option.some.injEq, exists_eq_left', Nat.reduceAdd, Nat.reduceLeDiff, true_and, and_true, true_or, or_true, Int.zero_add, Nat.zero_le, eq_self, ne_eq, not_true_eq_false, not_false_eq_true, false_implies, true_implies, implies_true, b2i_0, b2i_1, b2i_01, up_sc, sc_at, sc_sc, ite_true, ite_false, if_true, if_false, Nat.reduceEqDiff, reduceIte, hg, ea, eb, hx, Int.one_mul]
            repeat' (first | intro _ | refine And.intro ?_ ?_)
            all_goals first | omega | exact main _
          · rw [Int.min_eq_right (by omega)] at es
            have pw := pw_in (k := g (160 + b)) (by omega) (by omega)
            simp only [s285_151, s285_153, s285_156, s285_157, s285_160, s285_161, s285_162, s285_163, s285_164, s285_167, s285_168, s285_171, s285_172, s285_173, s285_174, s285_175, s285_178, s285_181, s285_182, s285_185, s285_188, s285_189, s285_190, s285_191, s285_192, s285_195, s285_198, s285_199, s285_200, s285_201, s285_204, s285_205, s285_208, s285_211, s285_212, s285_213, s285_214, s285_217, s285_218, s285_221, s285_224, s285_225, s285_226, s285_227, s285_229, s285_230, s285_231, s285_232, s285_235, s285_236, s285_238, s285_239, s285_242, s285_243, s285_244, s285_247, sx_push, tf, List.length_cons, List.length_nil, Option.some.injEq, exists_eq_left', Nat.reduceAdd, Nat.reduceLeDiff, true_and, and_true, true_or, or_true, Int.zero_add, Nat.zero_le, eq_self, ne_eq, not_true_eq_false, not_false_eq_true, false_implies, true_implies, implies_true, b2i_0, b2i_1, b2i_01, up_sc, sc_at, sc_sc, ite_true, ite_false, if_true, if_false, Nat.reduceEqDiff, reduceIte, hg, ea, eb, hx, Int.one_mul]
            repeat' (first | intro _ | refine And.intro ?_ ?_)
            all_goals first | omega | exact main _
        · have hK := hK0 ⟨b, Int.le_refl b, b1, ea, eb, es⟩
          unfold spP at es
          by_cases el : g (160 + a) < g (160 + b)
          · rw [Int.min_eq_left (by omega)] at es
            have pw := pw_in (k := g (160 + a)) (by omega) (by omega)
            simp only [s285_151, s285_153, s285_156, s285_157, s285_160, s285_161, s285_162, s285_163, s285_164, s285_167, s285_168, s285_171, s285_172, s285_173, s285_174, s285_175, s285_178, s285_181, s285_182, s285_185, s285_188, s285_189, s285_190, s285_191, s285_192, s285_195, s285_198, s285_199, s285_200, s285_201, s285_204, s285_205, s285_208, s285_211, s285_212, s285_213, s285_214, s285_217, s285_218, s285_221, s285_224, s285_225, s285_226, s285_227, s285_229, s285_230, s285_231, s285_232, s285_235, s285_236, s285_238, s285_239, s285_242, s285_243, sx_push, tf, List.length_cons, List.length_nil, Option.some.injEq, exists_eq_left', Nat.reduceAdd, Nat.reduceLeDiff, true_and, and_true, true_or, or_true, Int.zero_add, Nat.zero_le, eq_self, ne_eq, not_true_eq_false, not_false_eq_true, false_implies, true_implies, implies_true, b2i_0, b2i_1, b2i_01, up_sc, sc_at, sc_sc, ite_true, ite_false, if_true, if_false, Nat.reduceEqDiff, reduceIte, hg, ea, eb, hx, Int.one_mul]
            repeat' (first | intro _ | refine And.intro ?_ ?_)
            all_goals first | omega | exact hK
          · rw [Int.min_eq_right (by omega)] at es
            have pw := pw_in (k := g (160 + b)) (by omega) (by omega)
            simp only [s285_151, s285_153, s285_156, s285_157, s285_160, s285_161, s285_162, s285_163, s285_164, s285_167, s285_168, s285_171, s285_172, s285_173, s285_174, s285_175, s285_178, s285_181, s285_182, s285_185, s285_188, s285_189, s285_190, s285_191, s285_192, s285_195, s285_198, s285_199, s285_200, s285_201, s285_204, s285_205, s285_208, s285_211, s285_212, s285_213, s285_214, s285_217, s285_218, s285_221, s285_224, s285_225, s285_226, s285_227, s285_229, s285_230, s285_231, s285_232, s285_235, s285_236, s285_238, s285_239, s285_242, s285_243, sx_push, tf, List.length_cons, List.length_nil, Option.some.injEq, exists_eq_left', Nat.reduceAdd, Nat.reduceLeDiff, true_and, and_true, true_or, or_true, Int.zero_add, Nat.zero_le, eq_self, ne_eq, not_true_eq_false, not_false_eq_true, false_implies, true_implies, implies_true, b2i_0, b2i_1, b2i_01, up_sc, sc_at, sc_sc, ite_true, ite_false, if_true, if_false, Nat.reduceEqDiff, reduceIte, hg, ea, eb, hx, Int.one_mul]
            repeat' (first | intro _ | refine And.intro ?_ ?_)
            all_goals first | omega | exact hK
theorem x285o (hg : σ 150 = g) (ok : rdOk t g 39) (hw : wfc g) {w : Int} : ∀ (k : Nat) (a : Int) (u v : Option sxV), a + k = 40 → 0 ≤ a → ((∀ p q, a ≤ p → p < q → q < 40 → g p = 1 → g q = 1 → spP g p q) → K (some (vI 1)) (T0 n) σ) → ((∃ p q, a ≤ p ∧ p < q ∧ q < 40 ∧ g p = 1 ∧ g q = 1 ∧ ¬ spP g p q) → K (some (vI 0)) (T0 n) σ) → Rn 285 140 [some (vR 149), some (vI w), some (vI a), u, v] [] (T0 n) σ K := by
  intro k
  induction k with
  | zero =>
    intro a u v ha a0 hK1 hK0
    have := hK1 (fun p q p0 p1 p2 => by omega)
    rw [s285_140]
    simp only [s285_141, s285_143, s285_256, s285_257, sx_push, tf, List.length_cons, List.length_nil, Option.some.injEq, exists_eq_left', Nat.reduceAdd, Nat.reduceLeDiff, true_and, and_true, true_or, or_true, Int.zero_add, Nat.zero_le, eq_self, ne_eq, not_true_eq_false, not_false_eq_true, false_implies, true_implies, implies_true, b2i_0, b2i_1, b2i_01, up_sc, sc_at, sc_sc, ite_true, ite_false, if_true, if_false, Nat.reduceEqDiff, reduceIte]
    repeat' (first | intro _ | refine And.intro ?_ ?_)
    all_goals first | omega | exact this
  | succ k ih =>
    intro a u v ha a0 hK1 hK0
    have a1 : a < 40 := by omega
    have main : Rn 285 150 [some (vR 149), some (vI w), some (vI a), some (vI (a + 1)), v] [] (T0 n) σ K := by
      refine x285i hg ok hw a0 a1 k (a + 1) v (by omega) (by omega) (fun h v => ?_) (fun ⟨q, q0, q1, q2, q3, q4⟩ => hK0 ⟨a, q, Int.le_refl a, by omega, q1, q2, q3, q4⟩)
      simp only [s285_250, s285_253, sx_push, tf, List.length_cons, List.length_nil, Option.some.injEq, exists_eq_left', Nat.reduceAdd, Nat.reduceLeDiff, true_and, and_true, true_or, or_true, Int.zero_add, Nat.zero_le, eq_self, ne_eq, not_true_eq_false, not_false_eq_true, false_implies, true_implies, implies_true, b2i_0, b2i_1, b2i_01, up_sc, sc_at, sc_sc, ite_true, ite_false, if_true, if_false, Nat.reduceEqDiff, reduceIte]
      refine ⟨by omega, ih (a + 1) _ _ (by omega) (by omega) (fun h2 => hK1 (fun p q p0 p1 p2 hp hq => ?_)) (fun ⟨p, q, p0, p1⟩ => hK0 ⟨p, q, by omega, p1⟩)⟩
      by_cases z : p = a
      · rw [z] at hp ⊢; exact h q (by omega) p2 hp hq
      · exact h2 p q (by omega) p1 p2 hp hq
    rw [s285_140]
    simp only [s285_141, s285_143, s285_146, s285_147, s285_148, s285_149, sx_push, tf, List.length_cons, List.length_nil, Option.some.injEq, exists_eq_left', Nat.reduceAdd, Nat.reduceLeDiff, true_and, and_true, true_or, or_true, Int.zero_add, Nat.zero_le, eq_self, ne_eq, not_true_eq_false, not_false_eq_true, false_implies, true_implies, implies_true, b2i_0, b2i_1, b2i_01, up_sc, sc_at, sc_sc, ite_true, ite_false, if_true, if_false, Nat.reduceEqDiff, reduceIte]
    repeat' (first | intro _ | refine And.intro ?_ ?_)
    all_goals first | omega | exact main
def netsP (g : Int → Int) : Prop := (∀ q, 0 ≤ q → q < 40 → g q = 1 → nkP g q) ∧ tenF g 40 0 0 = (if 0 < cntF g 40 0 0 then 1 else 0) ∧ sepP g
theorem x285 (hg : σ 150 = g) (ok : rdOk t g 39) (hK1 : netsP g → K (some (vI 1)) (T0 n) σ) (hK0 : ¬ netsP g → K (some (vI 0)) (T0 n) σ) : Rn 285 0 [some (vR 149), none, none, none, none] [] (T0 n) σ K := by
  have hw : wfc g := fun p p0 p1 => ⟨(ok p p0 p1).2.1, (ok p p0 p1).2.2.1, (ok p p0 p1).2.2.2.1⟩
  have th : th01 g := fun p p0 p1 => by have := (ok p p0 p1).1; omega
  have tg := tenF_ge (g := g) 40 0 0
  have x202' := fun K => x202 (n := n) (σ := σ) (K := K) (by rw [hg]; exact th)
  rw [hg] at x202'
  simp only [s285_0, s285_1, s285_2, s285_3, sx_push, tf, List.length_cons, List.length_nil, Option.some.injEq, exists_eq_left', Nat.reduceAdd, Nat.reduceLeDiff, true_and, and_true, true_or, or_true, Int.zero_add, Nat.zero_le, eq_self, ne_eq, not_true_eq_false, not_false_eq_true, false_implies, true_implies, implies_true, b2i_0, b2i_1, b2i_01, up_sc, sc_at, sc_sc, ite_true, ite_false, if_true, if_false, Nat.reduceEqDiff, reduceIte]
  refine x285a hg ok hw 40 0 0 _ _ (by omega) (by omega) (by omega) (by omega) (fun h1 u v => ?_) (fun ⟨q, q0, q1, q2, q3⟩ => hK0 (fun z => q3 (z.1 q q0 q1 q2)))
  have main : tenF g 40 0 0 = (if 0 < cntF g 40 0 0 then 1 else 0) → Rn 285 140 [some (vR 149), some (vI (tenF g 40 0 0)), some (vI 0), u, v] [] (T0 n) σ K := fun h2 => x285o hg ok hw 40 0 _ _ (by omega) (by omega) (fun h3 => hK1 ⟨h1, h2, fun a b a0 ab b1 ha hb => h3 a b a0 ab b1 ha hb⟩) (fun ⟨p, q, p0, p1, p2, p3, p4, p5⟩ => hK0 (fun z => p5 (z.2.2 p q p0 p1 p2 p3 p4)))
  have no : tenF g 40 0 0 ≠ (if 0 < cntF g 40 0 0 then 1 else 0) → K (some (vI 0)) (T0 n) σ := fun h2 => hK0 (fun z => h2 z.2.1)
  generalize tenF g 40 0 0 = a at *
  generalize cntF g 40 0 0 = b at *
  by_cases c0 : 0 < b
  · rw [if_pos c0] at main no
    by_cases c1 : a = 1
    · simp only [s285_120, s285_121, s285_122, s285_125, s285_128, s285_129, s285_132, s285_133, s285_136, s285_137, s285_138, s285_139, sx_push, tf, List.length_cons, List.length_nil, Option.some.injEq, exists_eq_left', Nat.reduceAdd, Nat.reduceLeDiff, true_and, and_true, true_or, or_true, Int.zero_add, Nat.zero_le, eq_self, ne_eq, not_true_eq_false, not_false_eq_true, false_implies, true_implies, implies_true, b2i_0, b2i_1, b2i_01, up_sc, sc_at, sc_sc, ite_true, ite_false, if_true, if_false, Nat.reduceEqDiff, reduceIte, x202']
      repeat' (first | intro _ | refine And.intro ?_ ?_)
      all_goals first | omega | exact main c1
    · simp only [s285_120, s285_121, s285_122, s285_125, s285_128, s285_129, s285_132, s285_133, s285_136, s285_137, sx_push, tf, List.length_cons, List.length_nil, Option.some.injEq, exists_eq_left', Nat.reduceAdd, Nat.reduceLeDiff, true_and, and_true, true_or, or_true, Int.zero_add, Nat.zero_le, eq_self, ne_eq, not_true_eq_false, not_false_eq_true, false_implies, true_implies, implies_true, b2i_0, b2i_1, b2i_01, up_sc, sc_at, sc_sc, ite_true, ite_false, if_true, if_false, Nat.reduceEqDiff, reduceIte, x202']
      repeat' (first | intro _ | refine And.intro ?_ ?_)
      all_goals first | omega | exact no c1
  · rw [if_neg c0] at main no
    by_cases c1 : a = 0
    · simp only [s285_120, s285_121, s285_122, s285_125, s285_128, s285_129, s285_132, s285_133, s285_136, s285_137, s285_138, s285_139, sx_push, tf, List.length_cons, List.length_nil, Option.some.injEq, exists_eq_left', Nat.reduceAdd, Nat.reduceLeDiff, true_and, and_true, true_or, or_true, Int.zero_add, Nat.zero_le, eq_self, ne_eq, not_true_eq_false, not_false_eq_true, false_implies, true_implies, implies_true, b2i_0, b2i_1, b2i_01, up_sc, sc_at, sc_sc, ite_true, ite_false, if_true, if_false, Nat.reduceEqDiff, reduceIte, x202']
      repeat' (first | intro _ | refine And.intro ?_ ?_)
      all_goals first | omega | exact main c1
    · simp only [s285_120, s285_121, s285_122, s285_125, s285_128, s285_129, s285_132, s285_133, s285_136, s285_137, sx_push, tf, List.length_cons, List.length_nil, Option.some.injEq, exists_eq_left', Nat.reduceAdd, Nat.reduceLeDiff, true_and, and_true, true_or, or_true, Int.zero_add, Nat.zero_le, eq_self, ne_eq, not_true_eq_false, not_false_eq_true, false_implies, true_implies, implies_true, b2i_0, b2i_1, b2i_01, up_sc, sc_at, sc_sc, ite_true, ite_false, if_true, if_false, Nat.reduceEqDiff, reduceIte, x202']
      repeat' (first | intro _ | refine And.intro ?_ ?_)
      all_goals first | omega | exact no c1
end O3
