/-! proofs: proves -/
def rwB (f t : Int → Int) (x y z d i : Int) : Bool := decide (((0 ≤ t (2 * i) ∧ t (2 * i) < 40) ∧ f (t (2 * i)) = 1) ∧ (1 ≤ t (2 * i + 1) ∧ t (2 * i + 1) ≤ 10) ∧ d ≤ farT f (t (2 * i)) x y z - 2 ^ (t (2 * i + 1)).toNat)
def prH (f t : Int → Int) (x y z d : Int) : Nat → Int → Bool
  | 0, _ => true
  | m + 1, i => if rwB f t x y z d i = true then prH f t x y z d m (i + 1) else false
def prS (f t : Int → Int) (p : Int) : Nat → Int → Bool
  | 0, _ => false
  | m + 1, i => if spB f (t (2 * i)) (t (2 * i + 1)) p = true then true else prS f t p m (i + 1)
def prN (f t : Int → Int) (x y z d : Int) (M : Nat) : Nat → Int → Int → Int
  | 0, _, a => a
  | k + 1, p, a => if f p = 1 then (if prS f t p M 0 = true then prN f t x y z d M k (p + 1) (a + 1) else if farT f p x y z < d then -1 else prN f t x y z d M k (p + 1) a) else prN f t x y z d M k (p + 1) a
/-- rows that can be -/
def rwV (f t : Int → Int) (M : Nat) : Prop := ∀ i : Int, 0 ≤ i → i < M → ((0 ≤ t (2 * i) ∧ t (2 * i) < 40) ∧ f (t (2 * i)) = 1) ∧ 1 ≤ t (2 * i + 1) ∧ t (2 * i + 1) ≤ 10
theorem prH_V {f t : Int → Int} {x y z d : Int} : ∀ (m : Nat) (i : Int), prH f t x y z d m i = true → ∀ j, i ≤ j → j < i + m → ((0 ≤ t (2 * j) ∧ t (2 * j) < 40) ∧ f (t (2 * j)) = 1) ∧ 1 ≤ t (2 * j + 1) ∧ t (2 * j + 1) ≤ 10 := by
  intro m
  induction m with
  | zero => intro i _ j h1 h2; omega
  | succ m ih =>
    intro i h j h1 h2
    unfold prH at h
    split at h
    · rename_i e
      by_cases ej : j = i
      · subst ej
        unfold rwB at e
        rw [decide_eq_true_eq] at e
        exact ⟨e.1, e.2.1⟩
      · exact ih (i + 1) h j (by omega) (by omega)
    · cases h
theorem prS_cg {f t t' : Int → Int} {p : Int} : ∀ (m : Nat) (i : Int), (∀ j, 2 * i ≤ j → j < 2 * (i + m) → t j = t' j) → prS f t p m i = prS f t' p m i := by
  intro m
  induction m with
  | zero => intro i _; rfl
  | succ m ih =>
    intro i h
    unfold prS
    rw [h (2 * i) (by omega) (by omega), h (2 * i + 1) (by omega) (by omega), ih (i + 1) (fun j a b => h j (by omega) (by omega))]
section V1
variable {n : Nat} {c : Int} {σ : sxS} {K : Option sxV → sxT → sxS → Prop} {f t : Int → Int}
theorem x234a (hw : wfc (σ 150)) {x y z d : Int} (hx : in8 x) (hy : in8 y) (hz : in8 z) (hd : 0 ≤ d ∧ d ≤ 999) {M : Nat} (hM : (M : Int) ≤ 40) {u v w : Option sxV} : ∀ (m : Nat) (i : Int), i + m = M → 0 ≤ i → (prH (σ 150) (σ 154) x y z d m i = true → Rn 234 124 [some (vR 149), some (vI x), some (vI y), some (vI z), some (vI d), some (vI (2 * M)), some (vI (2 * M)), u, v, w] [] (T0 n) σ K) → (prH (σ 150) (σ 154) x y z d m i = false → K (some (vI (-1))) (T0 n) σ) → Rn 234 46 [some (vR 149), some (vI x), some (vI y), some (vI z), some (vI d), some (vI (2 * M)), some (vI (2 * i)), u, v, w] [] (T0 n) σ K := by
  intro m
  induction m with
  | zero =>
    intro i hi i0 h1 h2
    obtain rfl : i = M := by omega
    rw [s234_46]
    simp only [s234_48, s234_50, sx_push, tf, List.length_cons, List.length_nil, Option.some.injEq, exists_eq_left', Nat.reduceAdd, Nat.reduceLeDiff, true_and, and_true, true_or, or_true, Int.zero_add, Nat.zero_le, eq_self, ne_eq, not_true_eq_false, not_false_eq_true, false_implies, true_implies, implies_true, b2i_0, b2i_1, b2i_01, up_sc, sc_at, sc_sc, ite_true, ite_false, if_true, if_false, Nat.reduceEqDiff, reduceIte]
    have := h1 rfl
    repeat' (first | intro _ | refine And.intro ?_ ?_)
    all_goals first | omega | exact this
  | succ m ih =>
    intro i hi i0 h1 h2
    rw [s234_46]
    unfold prH at h1 h2
    have e2 : 2 * i + 2 = 2 * (i + 1) := by omega
    by_cases e : rwB (σ 150) (σ 154) x y z d i = true
    · simp only [if_pos e] at h1 h2
      unfold rwB at e
      rw [decide_eq_true_eq] at e
      have pw := pw_in (k := σ 154 (2 * i + 1)) (by omega) (by omega)
      have fa := farT_in hw e.1.1.1 e.1.1.2 hx hy hz
      simp only [s234_48, s234_50, s234_53, s234_54, s234_55, s234_58, s234_60, s234_61, s234_64, s234_67, s234_68, s234_71, s234_73, s234_74, s234_75, s234_76, s234_77, s234_79, s234_82, s234_85, s234_86, s234_87, s234_90, s234_92, s234_93, s234_94, s234_95, s234_96, s234_99, s234_100, s234_101, s234_104, s234_106, s234_107, s234_108, s234_109, s234_110, s234_111, s234_113, s234_116, s234_117, s234_118, s234_121, sx_push, tf, List.length_cons, List.length_nil, Option.some.injEq, exists_eq_left', Nat.reduceAdd, Nat.reduceLeDiff, true_and, and_true, true_or, or_true, Int.zero_add, Nat.zero_le, eq_self, ne_eq, not_true_eq_false, not_false_eq_true, false_implies, true_implies, implies_true, b2i_0, b2i_1, b2i_01, up_sc, sc_at, sc_sc, ite_true, ite_false, if_true, if_false, Nat.reduceEqDiff, reduceIte, x205, x185, x195 hw hx hy hz e.1.1.1 e.1.1.2, Int.one_mul, e2]
      repeat' (first | intro _ | refine And.intro ?_ ?_)
      all_goals first | omega | exact ih _ (by omega) (by omega) h1 h2
    · simp only [if_neg e] at h1 h2
      have hK := h2 trivial
      unfold rwB at e
      rw [decide_eq_true_eq] at e
      by_cases e1 : (0 ≤ σ 154 (2 * i) ∧ σ 154 (2 * i) < 40) ∧ σ 150 (σ 154 (2 * i)) = 1
      · by_cases e3 : 1 ≤ σ 154 (2 * i + 1) ∧ σ 154 (2 * i + 1) ≤ 10
        · have pw := pw_in (k := σ 154 (2 * i + 1)) (by omega) (by omega)
          have fa := farT_in hw e1.1.1 e1.1.2 hx hy hz
          have e4 : ¬ d ≤ farT (σ 150) (σ 154 (2 * i)) x y z - 2 ^ (σ 154 (2 * i + 1)).toNat := fun z => e ⟨e1, e3, z⟩
          simp only [s234_48, s234_50, s234_53, s234_54, s234_55, s234_58, s234_60, s234_61, s234_64, s234_67, s234_68, s234_71, s234_73, s234_74, s234_75, s234_76, s234_77, s234_79, s234_82, s234_85, s234_86, s234_87, s234_90, s234_92, s234_93, s234_94, s234_95, s234_96, s234_99, s234_100, s234_101, s234_104, s234_106, s234_107, s234_108, s234_109, s234_110, s234_111, s234_113, s234_116, s234_117, sx_push, tf, List.length_cons, List.length_nil, Option.some.injEq, exists_eq_left', Nat.reduceAdd, Nat.reduceLeDiff, true_and, and_true, true_or, or_true, Int.zero_add, Nat.zero_le, eq_self, ne_eq, not_true_eq_false, not_false_eq_true, false_implies, true_implies, implies_true, b2i_0, b2i_1, b2i_01, up_sc, sc_at, sc_sc, ite_true, ite_false, if_true, if_false, Nat.reduceEqDiff, reduceIte, x205, x185, x195 hw hx hy hz e1.1.1 e1.1.2, Int.one_mul]
          repeat' (first | intro _ | refine And.intro ?_ ?_)
          all_goals first | omega | exact hK
        · simp only [s234_48, s234_50, s234_53, s234_54, s234_55, s234_58, s234_60, s234_61, s234_64, s234_67, s234_68, s234_71, s234_73, s234_74, s234_75, s234_76, s234_77, s234_79, s234_82, s234_116, s234_117, sx_push, tf, List.length_cons, List.length_nil, Option.some.injEq, exists_eq_left', Nat.reduceAdd, Nat.reduceLeDiff, true_and, and_true, true_or, or_true, Int.zero_add, Nat.zero_le, eq_self, ne_eq, not_true_eq_false, not_false_eq_true, false_implies, true_implies, implies_true, b2i_0, b2i_1, b2i_01, up_sc, sc_at, sc_sc, ite_true, ite_false, if_true, if_false, Nat.reduceEqDiff, reduceIte, x205, x185]
          repeat' (first | intro _ | refine And.intro ?_ ?_)
          all_goals first | omega | exact hK
      · simp only [s234_48, s234_50, s234_53, s234_54, s234_55, s234_58, s234_60, s234_61, s234_64, s234_116, s234_117, sx_push, tf, List.length_cons, List.length_nil, Option.some.injEq, exists_eq_left', Nat.reduceAdd, Nat.reduceLeDiff, true_and, and_true, true_or, or_true, Int.zero_add, Nat.zero_le, eq_self, ne_eq, not_true_eq_false, not_false_eq_true, false_implies, true_implies, implies_true, b2i_0, b2i_1, b2i_01, up_sc, sc_at, sc_sc, ite_true, ite_false, if_true, if_false, Nat.reduceEqDiff, reduceIte, x205]
        repeat' (first | intro _ | refine And.intro ?_ ?_)
        all_goals first | omega | exact hK
theorem x234c (hO : invF (σ 150)) (hz : rtP (σ 150)) {x y z d p a : Int} (p0 : 0 ≤ p) (p1 : p < 40) {M : Nat} (hM : (M : Int) ≤ 40) (hV : rwV (σ 150) (σ 154) M) : ∀ (m : Nat) (i : Int) (b : Bool), i + m = M → 0 ≤ i → Rn 234 208 [some (vR 149), some (vI x), some (vI y), some (vI z), some (vI d), some (vI (2 * M)), some (vI a), some (vI p), some (vI (b2i ((b || prS (σ 150) (σ 154) p m i) = true))), some (vI (2 * M))] [] (T0 n) σ K → Rn 234 158 [some (vR 149), some (vI x), some (vI y), some (vI z), some (vI d), some (vI (2 * M)), some (vI a), some (vI p), some (vI (b2i (b = true))), some (vI (2 * i))] [] (T0 n) σ K := by
  intro m
  induction m with
  | zero =>
    intro i b hi i0 hK
    obtain rfl : i = M := by omega
    unfold prS at hK
    rw [Bool.or_false] at hK
    rw [s234_158]
    simp only [s234_160, s234_162, sx_push, tf, List.length_cons, List.length_nil, Option.some.injEq, exists_eq_left', Nat.reduceAdd, Nat.reduceLeDiff, true_and, and_true, true_or, or_true, Int.zero_add, Nat.zero_le, eq_self, ne_eq, not_true_eq_false, not_false_eq_true, false_implies, true_implies, implies_true, b2i_0, b2i_1, b2i_01, up_sc, sc_at, sc_sc, ite_true, ite_false, if_true, if_false, Nat.reduceEqDiff, reduceIte]
    repeat' (first | intro _ | refine And.intro ?_ ?_)
    all_goals first | omega | exact hK
  | succ m ih =>
    intro i b hi i0 hK
    have hv := hV i i0 (by omega)
    have e2 : 2 * i + 2 = 2 * (i + 1) := by omega
    rw [s234_158]
    unfold prS at hK
    cases b with
    | true =>
      have hK' : Rn 234 208 [some (vR 149), some (vI x), some (vI y), some (vI z), some (vI d), some (vI (2 * M)), some (vI a), some (vI p), some (vI (b2i ((true || prS (σ 150) (σ 154) p m (i + 1)) = true))), some (vI (2 * M))] [] (T0 n) σ K := by
        simp only [Bool.true_or] at hK ⊢; exact hK
      have := ih (i + 1) true (by omega) (by omega) hK'
      rw [b2i_t rfl] at this
      rw [b2i_t rfl]
      simp only [s234_160, s234_162, s234_165, s234_167, s234_195, s234_196, s234_200, s234_202, s234_205, Int.reduceToNat, Int.reducePow, Nat.reducePow, Int.reduceLE, Int.reduceLT, Int.reduceNeg, Int.reduceEq, Int.reduceNe, Int.reduceAdd, Int.reduceSub, Int.reduceMul, and_self, sx_push, tf, List.length_cons, List.length_nil, Option.some.injEq, exists_eq_left', Nat.reduceAdd, Nat.reduceLeDiff, true_and, and_true, true_or, or_true, Int.zero_add, Nat.zero_le, eq_self, ne_eq, not_true_eq_false, not_false_eq_true, false_implies, true_implies, implies_true, b2i_0, b2i_1, b2i_01, up_sc, sc_at, sc_sc, ite_true, ite_false, if_true, if_false, Nat.reduceEqDiff, reduceIte, e2]
      repeat' (first | intro _ | refine And.intro ?_ ?_)
      all_goals first | omega | exact this
    | false =>
      rw [b2i_f (by decide)]
      by_cases e : spB (σ 150) (σ 154 (2 * i)) (σ 154 (2 * i + 1)) p = true
      · rw [if_pos e] at hK
        have hK' : Rn 234 208 [some (vR 149), some (vI x), some (vI y), some (vI z), some (vI d), some (vI (2 * M)), some (vI a), some (vI p), some (vI (b2i ((true || prS (σ 150) (σ 154) p m (i + 1)) = true))), some (vI (2 * M))] [] (T0 n) σ K := by
          simp only [Bool.true_or, Bool.or_true] at hK ⊢; exact hK
        have := ih (i + 1) true (by omega) (by omega) hK'
        rw [b2i_t rfl] at this
        have x231' := fun K => x231 (n := n) (σ := σ) (K := K) hO.1 hO.2.2.1 hz (o := σ 154 (2 * i)) (k := σ 154 (2 * i + 1)) (q := p) (by omega) (by omega) (by omega) p0 p1
        rw [b2i_t e] at x231'
        simp only [s234_160, s234_162, s234_165, s234_167, s234_170, s234_171, s234_173, s234_174, s234_177, s234_179, s234_180, s234_181, s234_184, s234_186, s234_187, s234_188, s234_189, s234_192, s234_195, s234_196, s234_199, s234_200, s234_202, s234_205, Int.reduceToNat, Int.reducePow, Nat.reducePow, Int.reduceLE, Int.reduceLT, Int.reduceNeg, Int.reduceEq, Int.reduceNe, Int.reduceAdd, Int.reduceSub, Int.reduceMul, and_self, sx_push, tf, List.length_cons, List.length_nil, Option.some.injEq, exists_eq_left', Nat.reduceAdd, Nat.reduceLeDiff, true_and, and_true, true_or, or_true, Int.zero_add, Nat.zero_le, eq_self, ne_eq, not_true_eq_false, not_false_eq_true, false_implies, true_implies, implies_true, b2i_0, b2i_1, b2i_01, up_sc, sc_at, sc_sc, ite_true, ite_false, if_true, if_false, Nat.reduceEqDiff, reduceIte, x231', e2]
        repeat' (first | intro _ | refine And.intro ?_ ?_)
        all_goals first | omega | exact this
      · rw [if_neg e] at hK
        have := ih (i + 1) false (by omega) (by omega) hK
        rw [b2i_f (by decide)] at this
        have x231' := fun K => x231 (n := n) (σ := σ) (K := K) hO.1 hO.2.2.1 hz (o := σ 154 (2 * i)) (k := σ 154 (2 * i + 1)) (q := p) (by omega) (by omega) (by omega) p0 p1
        rw [b2i_f e] at x231'
        simp only [s234_160, s234_162, s234_165, s234_167, s234_170, s234_171, s234_173, s234_174, s234_177, s234_179, s234_180, s234_181, s234_184, s234_186, s234_187, s234_188, s234_189, s234_192, s234_195, s234_196, s234_199, s234_200, s234_202, s234_205, Int.reduceToNat, Int.reducePow, Nat.reducePow, Int.reduceLE, Int.reduceLT, Int.reduceNeg, Int.reduceEq, Int.reduceNe, Int.reduceAdd, Int.reduceSub, Int.reduceMul, and_self, sx_push, tf, List.length_cons, List.length_nil, Option.some.injEq, exists_eq_left', Nat.reduceAdd, Nat.reduceLeDiff, true_and, and_true, true_or, or_true, Int.zero_add, Nat.zero_le, eq_self, ne_eq, not_true_eq_false, not_false_eq_true, false_implies, true_implies, implies_true, b2i_0, b2i_1, b2i_01, up_sc, sc_at, sc_sc, ite_true, ite_false, if_true, if_false, Nat.reduceEqDiff, reduceIte, x231', e2]
        repeat' (first | intro _ | refine And.intro ?_ ?_)
        all_goals first | omega | exact this
theorem x234b (hO : invF (σ 150)) (hz : rtP (σ 150)) {x y z d : Int} (hx : in8 x) (hy : in8 y) (hz' : in8 z) {M : Nat} (hM : (M : Int) ≤ 40) (hV : rwV (σ 150) (σ 154) M) : ∀ (k : Nat) (p a : Int) (u v : Option sxV), p + k = 40 → 0 ≤ p → 0 ≤ a → a ≤ p → K (some (vI (prN (σ 150) (σ 154) x y z d M k p a))) (T0 n) σ → Rn 234 130 [some (vR 149), some (vI x), some (vI y), some (vI z), some (vI d), some (vI (2 * M)), some (vI a), some (vI p), u, v] [] (T0 n) σ K := by
  intro k
  induction k with
  | zero =>
    intro p a u v hp p0 a0 a1 hK
    rw [s234_130]
    simp only [s234_132, s234_134, s234_250, s234_252, sx_push, tf, List.length_cons, List.length_nil, Option.some.injEq, exists_eq_left', Nat.reduceAdd, Nat.reduceLeDiff, true_and, and_true, true_or, or_true, Int.zero_add, Nat.zero_le, eq_self, ne_eq, not_true_eq_false, not_false_eq_true, false_implies, true_implies, implies_true, b2i_0, b2i_1, b2i_01, up_sc, sc_at, sc_sc, ite_true, ite_false, if_true, if_false, Nat.reduceEqDiff, reduceIte]
    repeat' (first | intro _ | refine And.intro ?_ ?_)
    all_goals first | omega | exact hK
  | succ k ih =>
    intro p a u v hp p0 a0 a1 hK
    have p1 : p < 40 := by omega
    rw [s234_130]
    unfold prN at hK
    rcases hO.1 p p0 p1 with e | e
    · rw [if_neg (by omega)] at hK
      simp only [s234_132, s234_134, s234_137, s234_138, s234_141, s234_142, s234_144, s234_145, s234_146, s234_149, s234_244, s234_247, sx_push, tf, List.length_cons, List.length_nil, Option.some.injEq, exists_eq_left', Nat.reduceAdd, Nat.reduceLeDiff, true_and, and_true, true_or, or_true, Int.zero_add, Nat.zero_le, eq_self, ne_eq, not_true_eq_false, not_false_eq_true, false_implies, true_implies, implies_true, b2i_0, b2i_1, b2i_01, up_sc, sc_at, sc_sc, ite_true, ite_false, if_true, if_false, Nat.reduceEqDiff, reduceIte, e]
      repeat' (first | intro _ | refine And.intro ?_ ?_)
      all_goals first | omega | exact ih _ _ _ _ (by omega) (by omega) a0 (by omega) hK
    · rw [if_pos e] at hK
      simp only [s234_132, s234_134, s234_137, s234_138, s234_141, s234_142, s234_144, s234_145, s234_146, s234_149, s234_152, s234_153, s234_155, s234_156, sx_push, tf, List.length_cons, List.length_nil, Option.some.injEq, exists_eq_left', Nat.reduceAdd, Nat.reduceLeDiff, true_and, and_true, true_or, or_true, Int.zero_add, Nat.zero_le, eq_self, ne_eq, not_true_eq_false, not_false_eq_true, false_implies, true_implies, implies_true, b2i_0, b2i_1, b2i_01, up_sc, sc_at, sc_sc, ite_true, ite_false, if_true, if_false, Nat.reduceEqDiff, reduceIte, e]
      repeat' (first | intro _ | refine And.intro ?_ ?_)
      all_goals first | omega | skip
      have main : Rn 234 208 [some (vR 149), some (vI x), some (vI y), some (vI z), some (vI d), some (vI (2 * M)), some (vI a), some (vI p), some (vI (b2i ((false || prS (σ 150) (σ 154) p M 0) = true))), some (vI (2 * M))] [] (T0 n) σ K := by
        rw [Bool.false_or]
        by_cases e2 : prS (σ 150) (σ 154) p M 0 = true
        · rw [if_pos e2] at hK
          rw [b2i_t e2]
          simp only [s234_208, s234_210, s234_229, s234_231, s234_233, s234_236, s234_237, s234_240, s234_241, s234_242, s234_244, s234_247, Int.reduceToNat, Int.reducePow, Nat.reducePow, Int.reduceLE, Int.reduceLT, Int.reduceNeg, Int.reduceEq, Int.reduceNe, Int.reduceAdd, Int.reduceSub, Int.reduceMul, and_self, sx_push, tf, List.length_cons, List.length_nil, Option.some.injEq, exists_eq_left', Nat.reduceAdd, Nat.reduceLeDiff, true_and, and_true, true_or, or_true, Int.zero_add, Nat.zero_le, eq_self, ne_eq, not_true_eq_false, not_false_eq_true, false_implies, true_implies, implies_true, b2i_0, b2i_1, b2i_01, up_sc, sc_at, sc_sc, ite_true, ite_false, if_true, if_false, Nat.reduceEqDiff, reduceIte]
          repeat' (first | intro _ | refine And.intro ?_ ?_)
          all_goals first | omega | exact ih _ _ _ _ (by omega) (by omega) (by omega) (by omega) hK
        · rw [if_neg e2] at hK
          rw [b2i_f e2]
          have fa := farT_in hO.2.1 p0 p1 hx hy hz'
          simp only [s234_208, s234_210, s234_213, s234_214, s234_216, s234_217, s234_218, s234_219, s234_222, s234_224, s234_227, s234_228, s234_229, s234_231, s234_233, s234_236, s234_237, s234_240, s234_241, s234_242, s234_244, s234_247, Int.reduceToNat, Int.reducePow, Nat.reducePow, Int.reduceLE, Int.reduceLT, Int.reduceNeg, Int.reduceEq, Int.reduceNe, Int.reduceAdd, Int.reduceSub, Int.reduceMul, and_self, sx_push, tf, List.length_cons, List.length_nil, Option.some.injEq, exists_eq_left', Nat.reduceAdd, Nat.reduceLeDiff, true_and, and_true, true_or, or_true, Int.zero_add, Nat.zero_le, eq_self, ne_eq, not_true_eq_false, not_false_eq_true, false_implies, true_implies, implies_true, b2i_0, b2i_1, b2i_01, up_sc, sc_at, sc_sc, ite_true, ite_false, if_true, if_false, Nat.reduceEqDiff, reduceIte, x195 hO.2.1 hx hy hz' p0 p1, Int.add_zero]
          repeat' (first | intro _ | refine And.intro ?_ ?_)
          all_goals first | omega | (rw [if_pos (by omega)] at hK; exact hK) | (rw [if_neg (by omega)] at hK; exact ih _ _ _ _ (by omega) (by omega) (by omega) (by omega) hK)
      have := x234c (a := a) hO hz p0 p1 hM hV M 0 false (by omega) (by omega) main
      rw [b2i_f (by decide)] at this
      exact this
def proveS (f t : Int → Int) (x y z d m : Int) : Int := if (((0 ≤ x ∧ x ≤ 255) ∧ (0 ≤ y ∧ y ≤ 255) ∧ 0 ≤ z ∧ z ≤ 255) ∧ (0 ≤ d ∧ d ≤ 999) ∧ m % 2 = 0 ∧ m ≤ 80) ∧ prH f t x y z d (m / 2).toNat 0 = true then prN f t x y z d (m / 2).toNat 40 0 0 else -1
theorem tm2 {a : Int} (h : 0 ≤ a) : a.tmod 2 = a % 2 := Int.tmod_eq_emod_of_nonneg h
theorem x234 (hO : invF (σ 150)) (hz : rtP (σ 150)) {x y z d : Int} (h0 : 0 ≤ σ 149 8 ∧ σ 149 8 ≤ 1600) : Rn 234 0 [some (vR 149), some (vI x), some (vI y), some (vI z), some (vI d), none, none, none, none, none] [] (T0 n) σ K ↔ K (some (vI (proveS (σ 150) (σ 154) x y z d (σ 149 8)))) (T0 n) (sc σ 149 (up1 (σ 149) 8 0)) := by
  refine Rn_iff fun K hK => ?_
  unfold proveS at hK
  have g150 : sc σ 149 (up1 (σ 149) 8 0) 150 = σ 150 := by simp [sc_at]
  have g154 : sc σ 149 (up1 (σ 149) 8 0) 154 = σ 154 := by simp [sc_at]
  by_cases e : ((0 ≤ x ∧ x ≤ 255) ∧ (0 ≤ y ∧ y ≤ 255) ∧ 0 ≤ z ∧ z ≤ 255) ∧ (0 ≤ d ∧ d ≤ 999) ∧ σ 149 8 % 2 = 0 ∧ σ 149 8 ≤ 80
  · have hM : (((σ 149 8 / 2).toNat : Nat) : Int) ≤ 40 := by omega
    have e2 : σ 149 8 = 2 * ((σ 149 8 / 2).toNat : Nat) := by omega
    generalize (σ 149 8 / 2).toNat = M at *
    have tm' : (2 * (M : Int)).tmod 2 = 0 := by rw [tm2 (by omega)]; omega
    simp only [s234_0, s234_1, s234_4, s234_6, s234_7, s234_8, s234_9, s234_12, s234_15, s234_17, s234_18, s234_21, s234_24, s234_27, s234_29, s234_30, s234_31, s234_34, s234_36, s234_38, s234_41, s234_42, s234_43, s234_44, sx_push, tf, List.length_cons, List.length_nil, Option.some.injEq, exists_eq_left', Nat.reduceAdd, Nat.reduceLeDiff, true_and, and_true, true_or, or_true, Int.zero_add, Nat.zero_le, eq_self, ne_eq, not_true_eq_false, not_false_eq_true, false_implies, true_implies, implies_true, b2i_0, b2i_1, b2i_01, up_sc, sc_at, sc_sc, ite_true, ite_false, if_true, if_false, Nat.reduceEqDiff, reduceIte, x174, x226, x185, e2, tm']
    have main : Rn 234 46 [some (vR 149), some (vI x), some (vI y), some (vI z), some (vI d), some (vI (2 * M)), some (vI (2 * 0)), none, none, none] [] (T0 n) (sc σ 149 (up1 (σ 149) 8 0)) K := by
      refine x234a (by rw [g150]; exact hO.2.1) e.1.1 e.1.2.1 e.1.2.2 e.2.1 hM M 0 (by omega) (by omega) (fun h => ?_) (fun h => ?_)
      · rw [g150, g154] at h
        rw [if_pos ⟨e, h⟩] at hK
        simp only [s234_124, s234_125, s234_127, s234_128, sx_push, tf, List.length_cons, List.length_nil, Option.some.injEq, exists_eq_left', Nat.reduceAdd, Nat.reduceLeDiff, true_and, and_true, true_or, or_true, Int.zero_add, Nat.zero_le, eq_self, ne_eq, not_true_eq_false, not_false_eq_true, false_implies, true_implies, implies_true, b2i_0, b2i_1, b2i_01, up_sc, sc_at, sc_sc, ite_true, ite_false, if_true, if_false, Nat.reduceEqDiff, reduceIte]
        have hV : rwV (σ 150) (σ 154) M := fun i i0 i1 => prH_V M 0 h i i0 (by omega)
        refine x234b (by rw [g150]; exact hO) (by rw [g150]; exact hz) e.1.1 e.1.2.1 e.1.2.2 hM (by rw [g150, g154]; exact hV) 40 0 0 _ _ (by omega) (by omega) (by omega) (by omega) ?_
        rw [g150, g154]; exact hK
      · rw [g150, g154] at h
        rw [if_neg (fun z => by rw [h] at z; exact absurd z.2 (by decide))] at hK
        exact hK
    repeat' (first | intro _ | refine And.intro ?_ ?_)
    all_goals first | omega | exact main
  · rw [if_neg (fun z => e z.1)] at hK
    simp only [s234_0, s234_1, s234_4, s234_6, s234_7, s234_8, s234_9, s234_12, s234_15, s234_17, s234_18, s234_21, s234_24, s234_27, s234_29, s234_30, s234_31, s234_34, s234_36, s234_38, s234_41, s234_42, sx_push, tf, List.length_cons, List.length_nil, Option.some.injEq, exists_eq_left', Nat.reduceAdd, Nat.reduceLeDiff, true_and, and_true, true_or, or_true, Int.zero_add, Nat.zero_le, eq_self, ne_eq, not_true_eq_false, not_false_eq_true, false_implies, true_implies, implies_true, b2i_0, b2i_1, b2i_01, up_sc, sc_at, sc_sc, ite_true, ite_false, if_true, if_false, Nat.reduceEqDiff, reduceIte, x174, x226, x185, tm2 h0.1]
    repeat' (first | intro _ | refine And.intro ?_ ?_)
    all_goals first | omega | exact hK
theorem x20 {i : Int} : Rn 20 0 [some (vR 2), some (vI i)] [] (T0 n) σ K ↔ K (some (vI (if (0 ≤ i ∧ i < σ 2 1) ∧ i < 1600 then σ 3 i else -1))) (T0 n) σ := by
  refine Rn_iff fun K hK => ?_
  by_cases e : (0 ≤ i ∧ i < σ 2 1) ∧ i < 1600
  · rw [if_pos e] at hK
    simp only [s20_0, s20_1, s20_4, s20_5, s20_6, s20_9, s20_12, s20_13, s20_16, s20_19, s20_20, s20_23, s20_24, s20_27, s20_28, s20_29, sx_push, tf, List.length_cons, List.length_nil, Option.some.injEq, exists_eq_left', Nat.reduceAdd, Nat.reduceLeDiff, true_and, and_true, true_or, or_true, Int.zero_add, Nat.zero_le, eq_self, ne_eq, not_true_eq_false, not_false_eq_true, false_implies, true_implies, implies_true, b2i_0, b2i_1, b2i_01, up_sc, sc_at, sc_sc, ite_true, ite_false, if_true, if_false, Nat.reduceEqDiff, reduceIte]
    repeat' (first | intro _ | refine And.intro ?_ ?_)
    all_goals first | exact hK | omega
  · rw [if_neg e] at hK
    simp only [s20_0, s20_1, s20_4, s20_5, s20_6, s20_9, s20_12, s20_13, s20_16, s20_19, s20_20, s20_23, s20_24, s20_27, s20_28, s20_29, sx_push, tf, List.length_cons, List.length_nil, Option.some.injEq, exists_eq_left', Nat.reduceAdd, Nat.reduceLeDiff, true_and, and_true, true_or, or_true, Int.zero_add, Nat.zero_le, eq_self, ne_eq, not_true_eq_false, not_false_eq_true, false_implies, true_implies, implies_true, b2i_0, b2i_1, b2i_01, up_sc, sc_at, sc_sc, ite_true, ite_false, if_true, if_false, Nat.reduceEqDiff, reduceIte]
    repeat' (first | intro _ | refine And.intro ?_ ?_)
    all_goals first | exact hK | omega
theorem x90l (hr : rL σ 7 f) (hw : wfc f) {x y z d : Int} (hx : in8 x) (hy : in8 y) (hz : in8 z) (hd : 0 ≤ d ∧ d ≤ 999) {M : Nat} (hM : (M : Int) ≤ 40) (hl : σ 2 1 = 2 * M) (ht : ∀ j : Int, 0 ≤ j → j < 2 * M → σ 3 j = t j) : ∀ (m : Nat) (i : Int) (u v : Option sxV), i + m = M → 0 ≤ i → K (some (vI (b2i (prH f t x y z d m i = true)))) (T0 n) σ → Rn 90 3 [some (vR 1), some (vI M), some (vI (pk x y z)), some (vI d), some (vI i), u, v] [] (T0 n) σ K := by
  intro m
  induction m with
  | zero =>
    intro i u v hi i0 hK
    unfold prH at hK
    rw [b2i_t rfl] at hK
    rw [s90_3]
    simp only [s90_5, s90_6, s90_89, s90_90, sx_push, tf, List.length_cons, List.length_nil, Option.some.injEq, exists_eq_left', Nat.reduceAdd, Nat.reduceLeDiff, true_and, and_true, true_or, or_true, Int.zero_add, Nat.zero_le, eq_self, ne_eq, not_true_eq_false, not_false_eq_true, false_implies, true_implies, implies_true, b2i_0, b2i_1, b2i_01, up_sc, sc_at, sc_sc, ite_true, ite_false, if_true, if_false, Nat.reduceEqDiff, reduceIte]
    repeat' (first | intro _ | refine And.intro ?_ ?_)
    all_goals first | omega | exact hK
  | succ m ih =>
    intro i u v hi i0 hK
    rw [s90_3]
    unfold prH at hK
    have c1 : (0 ≤ 2 * i ∧ 2 * i < σ 2 1) ∧ 2 * i < 1600 := by omega
    have c2 : (0 ≤ 2 * i + 1 ∧ 2 * i + 1 < σ 2 1) ∧ 2 * i + 1 < 1600 := by omega
    have b1 := fun K => x20 (n := n) (σ := σ) (K := K) (i := 2 * i)
    have b2 := fun K => x20 (n := n) (σ := σ) (K := K) (i := 2 * i + 1)
    rw [if_pos c1, ht _ (by omega) (by omega)] at b1
    rw [if_pos c2, ht _ (by omega) (by omega)] at b2
    by_cases e : rwB f t x y z d i = true
    · rw [if_pos e] at hK
      unfold rwB at e
      rw [decide_eq_true_eq] at e
      have pw := pw_in (k := t (2 * i + 1)) (by omega) (by omega)
      have fa := farT_in hw e.1.1.1 e.1.1.2 hx hy hz
      simp only [s90_5, s90_6, s90_9, s90_10, s90_13, s90_14, s90_16, s90_17, s90_20, s90_22, s90_23, s90_26, s90_27, s90_29, s90_30, s90_31, s90_32, s90_35, s90_37, s90_38, s90_41, s90_43, s90_46, s90_49, s90_51, s90_52, s90_55, s90_57, s90_59, s90_62, s90_63, s90_66, s90_68, s90_69, s90_72, s90_73, s90_75, s90_76, s90_77, s90_78, s90_81, s90_82, s90_83, s90_86, sx_push, tf, List.length_cons, List.length_nil, Option.some.injEq, exists_eq_left', Nat.reduceAdd, Nat.reduceLeDiff, true_and, and_true, true_or, or_true, Int.zero_add, Nat.zero_le, eq_self, ne_eq, not_true_eq_false, not_false_eq_true, false_implies, true_implies, implies_true, b2i_0, b2i_1, b2i_01, up_sc, sc_at, sc_sc, ite_true, ite_false, if_true, if_false, Nat.reduceEqDiff, reduceIte, b1, b2, x49 isP7 hr, x42 isP7 hr hw hx hy hz e.1.1.1 e.1.1.2 e.1.2, Int.one_mul]
      repeat' (first | intro _ | refine And.intro ?_ ?_)
      all_goals first | omega | exact ih _ _ _ (by omega) (by omega) hK
    · rw [if_neg e, b2i_f (by decide)] at hK
      unfold rwB at e
      rw [decide_eq_true_eq] at e
      by_cases e1 : (0 ≤ t (2 * i) ∧ t (2 * i) < 40) ∧ f (t (2 * i)) = 1
      · by_cases e3 : 1 ≤ t (2 * i + 1) ∧ t (2 * i + 1) ≤ 10
        · have pw := pw_in (k := t (2 * i + 1)) (by omega) (by omega)
          have fa := farT_in hw e1.1.1 e1.1.2 hx hy hz
          have e4 : ¬ d ≤ farT f (t (2 * i)) x y z - 2 ^ (t (2 * i + 1)).toNat := fun z => e ⟨e1, e3, z⟩
          simp only [s90_5, s90_6, s90_9, s90_10, s90_13, s90_14, s90_16, s90_17, s90_20, s90_22, s90_23, s90_26, s90_27, s90_29, s90_30, s90_31, s90_32, s90_35, s90_37, s90_38, s90_41, s90_43, s90_46, s90_49, s90_51, s90_52, s90_55, s90_57, s90_59, s90_62, s90_63, s90_66, s90_68, s90_69, s90_72, s90_73, s90_75, s90_76, s90_77, s90_78, s90_81, s90_82, sx_push, tf, List.length_cons, List.length_nil, Option.some.injEq, exists_eq_left', Nat.reduceAdd, Nat.reduceLeDiff, true_and, and_true, true_or, or_true, Int.zero_add, Nat.zero_le, eq_self, ne_eq, not_true_eq_false, not_false_eq_true, false_implies, true_implies, implies_true, b2i_0, b2i_1, b2i_01, up_sc, sc_at, sc_sc, ite_true, ite_false, if_true, if_false, Nat.reduceEqDiff, reduceIte, b1, b2, x49 isP7 hr, x42 isP7 hr hw hx hy hz e1.1.1 e1.1.2 e1.2, Int.one_mul]
          repeat' (first | intro _ | refine And.intro ?_ ?_)
          all_goals first | omega | exact hK
        · simp only [s90_5, s90_6, s90_9, s90_10, s90_13, s90_14, s90_16, s90_17, s90_20, s90_22, s90_23, s90_26, s90_27, s90_29, s90_30, s90_31, s90_32, s90_35, s90_37, s90_38, s90_41, s90_43, s90_46, s90_49, s90_51, s90_52, s90_55, s90_57, s90_59, s90_81, s90_82, sx_push, tf, List.length_cons, List.length_nil, Option.some.injEq, exists_eq_left', Nat.reduceAdd, Nat.reduceLeDiff, true_and, and_true, true_or, or_true, Int.zero_add, Nat.zero_le, eq_self, ne_eq, not_true_eq_false, not_false_eq_true, false_implies, true_implies, implies_true, b2i_0, b2i_1, b2i_01, up_sc, sc_at, sc_sc, ite_true, ite_false, if_true, if_false, Nat.reduceEqDiff, reduceIte, b1, b2, x49 isP7 hr]
          repeat' (first | intro _ | refine And.intro ?_ ?_)
          all_goals first | omega | exact hK
      · simp only [s90_5, s90_6, s90_9, s90_10, s90_13, s90_14, s90_16, s90_17, s90_20, s90_22, s90_23, s90_26, s90_27, s90_29, s90_30, s90_31, s90_32, s90_35, s90_37, s90_38, s90_41, s90_43, s90_46, s90_81, s90_82, sx_push, tf, List.length_cons, List.length_nil, Option.some.injEq, exists_eq_left', Nat.reduceAdd, Nat.reduceLeDiff, true_and, and_true, true_or, or_true, Int.zero_add, Nat.zero_le, eq_self, ne_eq, not_true_eq_false, not_false_eq_true, false_implies, true_implies, implies_true, b2i_0, b2i_1, b2i_01, up_sc, sc_at, sc_sc, ite_true, ite_false, if_true, if_false, Nat.reduceEqDiff, reduceIte, b1, b2, x49 isP7 hr]
        repeat' (first | intro _ | refine And.intro ?_ ?_)
        all_goals first | omega | exact hK
theorem x91l (hr : rL σ 7 f) (hp : rP σ 7 f) (htr : tree f) (hz : rtP f) {p : Int} {M : Nat} (hM : (M : Int) ≤ 40) (hl : σ 2 1 = 2 * M) (ht : ∀ j : Int, 0 ≤ j → j < 2 * M → σ 3 j = t j) (hV : rwV f t M) : ∀ (m : Nat) (i : Int), i + m = M → 0 ≤ i → K (some (vI (b2i (prS f t p m i = true)))) (T0 n) σ → Rn 91 2 [some (vR 1), some (vI p), some (vI M), some (vI i)] [] (T0 n) σ K := by
  intro m
  induction m with
  | zero =>
    intro i hi i0 hK
    unfold prS at hK
    rw [b2i_f (by decide)] at hK
    rw [s91_2]
    simp only [s91_0, s91_1, s91_3, s91_4, s91_7, s91_8, s91_11, s91_12, s91_13, s91_16, s91_17, s91_18, s91_19, s91_22, s91_23, s91_26, s91_27, s91_28, s91_29, s91_30, s91_31, s91_34, s91_37, s91_40, s91_41, s91_42, s91_45, s91_48, s91_49, sx_push, tf, List.length_cons, List.length_nil, Option.some.injEq, exists_eq_left', Nat.reduceAdd, Nat.reduceLeDiff, true_and, and_true, true_or, or_true, Int.zero_add, Nat.zero_le, eq_self, ne_eq, not_true_eq_false, not_false_eq_true, false_implies, true_implies, implies_true, b2i_0, b2i_1, b2i_01, up_sc, sc_at, sc_sc, ite_true, ite_false, if_true, if_false, Nat.reduceEqDiff, reduceIte]
    repeat' (first | intro _ | refine And.intro ?_ ?_)
    all_goals first | omega | exact hK
  | succ m ih =>
    intro i hi i0 hK
    rw [s91_2]
    unfold prS at hK
    have c1 : (0 ≤ 2 * i ∧ 2 * i < σ 2 1) ∧ 2 * i < 1600 := by omega
    have c2 : (0 ≤ 2 * i + 1 ∧ 2 * i + 1 < σ 2 1) ∧ 2 * i + 1 < 1600 := by omega
    have b1 := fun K => x20 (n := n) (σ := σ) (K := K) (i := 2 * i)
    have b2 := fun K => x20 (n := n) (σ := σ) (K := K) (i := 2 * i + 1)
    rw [if_pos c1, ht _ (by omega) (by omega)] at b1
    rw [if_pos c2, ht _ (by omega) (by omega)] at b2
    have hv := hV i i0 (by omega)
    have x83' := fun K => x83 (n := n) (σ := σ) (K := K) hr hp htr hz (q := p) (p := t (2 * i)) (k := t (2 * i + 1)) hv.1.1.1 hv.1.1.2 hv.1.2 (by omega) (by omega)
    by_cases e : spB f (t (2 * i)) (t (2 * i + 1)) p = true
    · rw [if_pos e, b2i_t rfl] at hK
      rw [b2i_t e] at x83'
      simp only [s91_0, s91_1, s91_3, s91_4, s91_7, s91_8, s91_11, s91_12, s91_13, s91_16, s91_17, s91_18, s91_19, s91_22, s91_23, s91_26, s91_27, s91_28, s91_29, s91_30, s91_31, s91_34, s91_37, s91_40, s91_41, s91_42, s91_45, s91_48, s91_49, Int.reduceToNat, Int.reducePow, Nat.reducePow, Int.reduceLE, Int.reduceLT, Int.reduceNeg, Int.reduceEq, Int.reduceNe, Int.reduceAdd, Int.reduceSub, Int.reduceMul, and_self, sx_push, tf, List.length_cons, List.length_nil, Option.some.injEq, exists_eq_left', Nat.reduceAdd, Nat.reduceLeDiff, true_and, and_true, true_or, or_true, Int.zero_add, Nat.zero_le, eq_self, ne_eq, not_true_eq_false, not_false_eq_true, false_implies, true_implies, implies_true, b2i_0, b2i_1, b2i_01, up_sc, sc_at, sc_sc, ite_true, ite_false, if_true, if_false, Nat.reduceEqDiff, reduceIte, b1, b2, x83']
      repeat' (first | intro _ | refine And.intro ?_ ?_)
      all_goals first | omega | exact hK
    · rw [if_neg e] at hK
      rw [b2i_f e] at x83'
      simp only [s91_0, s91_1, s91_3, s91_4, s91_7, s91_8, s91_11, s91_12, s91_13, s91_16, s91_17, s91_18, s91_19, s91_22, s91_23, s91_26, s91_27, s91_28, s91_29, s91_30, s91_31, s91_34, s91_37, s91_40, s91_41, s91_42, s91_45, s91_48, s91_49, Int.reduceToNat, Int.reducePow, Nat.reducePow, Int.reduceLE, Int.reduceLT, Int.reduceNeg, Int.reduceEq, Int.reduceNe, Int.reduceAdd, Int.reduceSub, Int.reduceMul, and_self, sx_push, tf, List.length_cons, List.length_nil, Option.some.injEq, exists_eq_left', Nat.reduceAdd, Nat.reduceLeDiff, true_and, and_true, true_or, or_true, Int.zero_add, Nat.zero_le, eq_self, ne_eq, not_true_eq_false, not_false_eq_true, false_implies, true_implies, implies_true, b2i_0, b2i_1, b2i_01, up_sc, sc_at, sc_sc, ite_true, ite_false, if_true, if_false, Nat.reduceEqDiff, reduceIte, b1, b2, x83']
      repeat' (first | intro _ | refine And.intro ?_ ?_)
      all_goals first | omega | exact ih _ (by omega) (by omega) hK
theorem x91 (hr : rL σ 7 f) (hp : rP σ 7 f) (htr : tree f) (hz : rtP f) {p : Int} {M : Nat} (hM : (M : Int) ≤ 40) (hl : σ 2 1 = 2 * M) (ht : ∀ j : Int, 0 ≤ j → j < 2 * M → σ 3 j = t j) (hV : rwV f t M) : Rn 91 0 [some (vR 1), some (vI p), some (vI M), none] [] (T0 n) σ K ↔ K (some (vI (b2i (prS f t p M 0 = true)))) (T0 n) σ := by
  refine Rn_iff fun K hK => ?_
  simp only [s91_0, s91_1, s91_3, s91_4, s91_7, s91_8, s91_11, s91_12, s91_13, s91_16, s91_17, s91_18, s91_19, s91_22, s91_23, s91_26, s91_27, s91_28, s91_29, s91_30, s91_31, s91_34, s91_37, s91_40, s91_41, s91_42, s91_45, s91_48, s91_49, sx_push, tf, List.length_cons, List.length_nil, Option.some.injEq, exists_eq_left', Nat.reduceAdd, Nat.reduceLeDiff, true_and, and_true, true_or, or_true, Int.zero_add, Nat.zero_le, eq_self, ne_eq, not_true_eq_false, not_false_eq_true, false_implies, true_implies, implies_true, b2i_0, b2i_1, b2i_01, up_sc, sc_at, sc_sc, ite_true, ite_false, if_true, if_false, Nat.reduceEqDiff, reduceIte]
  exact x91l hr hp htr hz hM hl ht hV M 0 (by omega) (by omega) hK
theorem x89l (hr : rL σ 7 f) (hp : rP σ 7 f) (hO : invF f) (hz : rtP f) {x y z d : Int} (hx : in8 x) (hy : in8 y) (hz' : in8 z) {M : Nat} (hM : (M : Int) ≤ 40) (hl : σ 2 1 = 2 * M) (ht : ∀ j : Int, 0 ≤ j → j < 2 * M → σ 3 j = t j) (hV : rwV f t M) : ∀ (k : Nat) (p a : Int), p + k = 40 → 0 ≤ p → 0 ≤ a → a ≤ p → K (some (vI (prN f t x y z d M k p a))) (T0 n) σ → Rn 89 46 [some (vR 1), some (vI (pk x y z)), some (vI d), some (vI M), some (vI a), some (vI p)] [] (T0 n) σ K := by
  intro k
  induction k with
  | zero =>
    intro p a hp p0 a0 a1 hK
    rw [s89_46]
    simp only [s89_48, s89_50, s89_103, s89_105, sx_push, tf, List.length_cons, List.length_nil, Option.some.injEq, exists_eq_left', Nat.reduceAdd, Nat.reduceLeDiff, true_and, and_true, true_or, or_true, Int.zero_add, Nat.zero_le, eq_self, ne_eq, not_true_eq_false, not_false_eq_true, false_implies, true_implies, implies_true, b2i_0, b2i_1, b2i_01, up_sc, sc_at, sc_sc, ite_true, ite_false, if_true, if_false, Nat.reduceEqDiff, reduceIte]
    repeat' (first | intro _ | refine And.intro ?_ ?_)
    all_goals first | omega | exact hK
  | succ k ih =>
    intro p a hpk p0 a0 a1 hK
    have p1 : p < 40 := by omega
    rw [s89_46]
    unfold prN at hK
    rcases hO.1 p p0 p1 with e | e
    · rw [if_neg (by omega)] at hK
      simp only [s89_48, s89_50, s89_53, s89_54, s89_57, s89_59, s89_62, s89_97, s89_100, sx_push, tf, List.length_cons, List.length_nil, Option.some.injEq, exists_eq_left', Nat.reduceAdd, Nat.reduceLeDiff, true_and, and_true, true_or, or_true, Int.zero_add, Nat.zero_le, eq_self, ne_eq, not_true_eq_false, not_false_eq_true, false_implies, true_implies, implies_true, b2i_0, b2i_1, b2i_01, up_sc, sc_at, sc_sc, ite_true, ite_false, if_true, if_false, Nat.reduceEqDiff, reduceIte, x49 isP7 hr]
      repeat' (first | intro _ | refine And.intro ?_ ?_)
      all_goals first | omega | exact ih _ _ (by omega) (by omega) a0 (by omega) hK
    · rw [if_pos e] at hK
      have x91' := fun K => x91 (n := n) (σ := σ) (K := K) hr hp hO.2.2.1 hz (p := p) hM hl ht hV
      by_cases e2 : prS f t p M 0 = true
      · rw [if_pos e2] at hK
        rw [b2i_t e2] at x91'
        simp only [s89_48, s89_50, s89_53, s89_54, s89_57, s89_59, s89_62, s89_65, s89_66, s89_68, s89_69, s89_72, s89_75, s89_78, s89_81, s89_82, s89_85, s89_87, s89_88, s89_91, s89_92, s89_95, s89_96, s89_97, s89_100, Int.reduceToNat, Int.reducePow, Nat.reducePow, Int.reduceLE, Int.reduceLT, Int.reduceNeg, Int.reduceEq, Int.reduceNe, Int.reduceAdd, Int.reduceSub, Int.reduceMul, and_self, sx_push, tf, List.length_cons, List.length_nil, Option.some.injEq, exists_eq_left', Nat.reduceAdd, Nat.reduceLeDiff, true_and, and_true, true_or, or_true, Int.zero_add, Nat.zero_le, eq_self, ne_eq, not_true_eq_false, not_false_eq_true, false_implies, true_implies, implies_true, b2i_0, b2i_1, b2i_01, up_sc, sc_at, sc_sc, ite_true, ite_false, if_true, if_false, Nat.reduceEqDiff, reduceIte, x49 isP7 hr, x91']
        repeat' (first | intro _ | refine And.intro ?_ ?_)
        all_goals first | omega | exact ih _ _ (by omega) (by omega) (by omega) (by omega) hK
      · rw [if_neg e2] at hK
        rw [b2i_f e2] at x91'
        simp only [s89_48, s89_50, s89_53, s89_54, s89_57, s89_59, s89_62, s89_65, s89_66, s89_68, s89_69, s89_72, s89_75, s89_78, s89_81, s89_82, s89_85, s89_87, s89_88, s89_91, s89_92, s89_95, s89_96, s89_97, s89_100, Int.reduceToNat, Int.reducePow, Nat.reducePow, Int.reduceLE, Int.reduceLT, Int.reduceNeg, Int.reduceEq, Int.reduceNe, Int.reduceAdd, Int.reduceSub, Int.reduceMul, and_self, sx_push, tf, List.length_cons, List.length_nil, Option.some.injEq, exists_eq_left', Nat.reduceAdd, Nat.reduceLeDiff, true_and, and_true, true_or, or_true, Int.zero_add, Nat.zero_le, eq_self, ne_eq, not_true_eq_false, not_false_eq_true, false_implies, true_implies, implies_true, b2i_0, b2i_1, b2i_01, up_sc, sc_at, sc_sc, ite_true, ite_false, if_true, if_false, Nat.reduceEqDiff, reduceIte, x49 isP7 hr, x91', x42 isP7 hr hO.2.1 hx hy hz' p0 p1 e]
        repeat' (first | intro _ | refine And.intro ?_ ?_)
        all_goals first | omega | (rw [if_pos (by omega)] at hK; exact hK) | (rw [if_neg (by omega)] at hK; exact ih _ _ (by omega) (by omega) (by omega) (by omega) hK)
theorem td2 {a : Int} (h : 0 ≤ a) : a.tdiv 2 = a / 2 := Int.tdiv_eq_ediv_of_nonneg h
theorem x89 (hr : rL σ 7 f) (hp : rP σ 7 f) (hO : invF f) (hz : rtP f) {x y z d : Int} (hx : in8 x) (hy : in8 y) (hz' : in8 z) (hd : 0 ≤ d ∧ d ≤ 999) (hl : 0 ≤ σ 2 1 ∧ σ 2 1 ≤ 1600) (ht : ∀ j, 0 ≤ j → j < σ 2 1 → σ 3 j = t j) : Rn 89 0 [some (vR 1), some (vI (pk x y z)), some (vI d), none, none, none] [] (T0 n) σ K ↔ K (some (vI (if (σ 2 1 % 2 = 0 ∧ σ 2 1 ≤ 80) ∧ prH f t x y z d (σ 2 1 / 2).toNat 0 = true then prN f t x y z d (σ 2 1 / 2).toNat 40 0 0 else -1))) (T0 n) σ := by
  refine Rn_iff fun K hK => ?_
  by_cases e : σ 2 1 % 2 = 0 ∧ σ 2 1 ≤ 80
  · have hM : (((σ 2 1 / 2).toNat : Nat) : Int) ≤ 40 := by omega
    have e2 : σ 2 1 = 2 * ((σ 2 1 / 2).toNat : Nat) := by omega
    generalize (σ 2 1 / 2).toNat = M at *
    have tm' : (σ 2 1).tmod 2 = 0 := by rw [tm2 (by omega)]; omega
    have td' : (σ 2 1).tdiv 2 = M := by rw [td2 (by omega)]; omega
    have ht' : ∀ j, 0 ≤ j → j < 2 * (M : Int) → σ 3 j = t j := fun j a b => ht j a (by omega)
    have x90' : ∀ K : Option sxV → sxT → sxS → Prop, Rn 90 0 [some (vR 1), some (vI M), some (vI (pk x y z)), some (vI d), none, none, none] [] (T0 n) σ K ↔ K (some (vI (b2i (prH f t x y z d M 0 = true)))) (T0 n) σ := fun K => by
      refine Rn_iff fun K hK => ?_
      simp only [s90_0, s90_1, s90_5, s90_6, s90_9, s90_10, s90_13, s90_14, s90_16, s90_17, s90_20, s90_22, s90_23, s90_26, s90_27, s90_29, s90_30, s90_31, s90_32, s90_35, s90_37, s90_38, s90_41, s90_43, s90_46, s90_49, s90_51, s90_52, s90_55, s90_57, s90_59, s90_62, s90_63, s90_66, s90_68, s90_69, s90_72, s90_73, s90_75, s90_76, s90_77, s90_78, s90_81, s90_82, s90_83, s90_86, s90_89, s90_90, sx_push, tf, List.length_cons, List.length_nil, Option.some.injEq, exists_eq_left', Nat.reduceAdd, Nat.reduceLeDiff, true_and, and_true, true_or, or_true, Int.zero_add, Nat.zero_le, eq_self, ne_eq, not_true_eq_false, not_false_eq_true, false_implies, true_implies, implies_true, b2i_0, b2i_1, b2i_01, up_sc, sc_at, sc_sc, ite_true, ite_false, if_true, if_false, Nat.reduceEqDiff, reduceIte]
      exact x90l hr hO.2.1 hx hy hz' hd hM e2 ht' M 0 _ _ (by omega) (by omega) hK
    by_cases h : prH f t x y z d M 0 = true
    · rw [if_pos ⟨e, h⟩] at hK
      simp only [b2i_t h] at x90'
      have hV : rwV f t M := fun i i0 i1 => prH_V M 0 h i i0 (by omega)
      have main : Rn 89 46 [some (vR 1), some (vI (pk x y z)), some (vI d), some (vI M), some (vI 0), some (vI 0)] [] (T0 n) σ K := x89l hr hp hO hz hx hy hz' hM e2 ht' hV 40 0 0 (by omega) (by omega) (by omega) (by omega) hK
      simp only [s89_0, s89_1, s89_4, s89_7, s89_8, s89_9, s89_10, s89_11, s89_14, s89_17, s89_18, s89_19, s89_22, s89_23, s89_25, s89_28, s89_29, s89_30, s89_31, s89_32, s89_35, s89_38, s89_39, s89_40, s89_41, s89_43, s89_44, Int.reduceToNat, Int.reducePow, Nat.reducePow, Int.reduceLE, Int.reduceLT, Int.reduceNeg, Int.reduceEq, Int.reduceNe, Int.reduceAdd, Int.reduceSub, Int.reduceMul, and_self, sx_push, tf, List.length_cons, List.length_nil, Option.some.injEq, exists_eq_left', Nat.reduceAdd, Nat.reduceLeDiff, true_and, and_true, true_or, or_true, Int.zero_add, Nat.zero_le, eq_self, ne_eq, not_true_eq_false, not_false_eq_true, false_implies, true_implies, implies_true, b2i_0, b2i_1, b2i_01, up_sc, sc_at, sc_sc, ite_true, ite_false, if_true, if_false, Nat.reduceEqDiff, reduceIte, td', tm', x90']
      repeat' (first | intro _ | refine And.intro ?_ ?_)
      all_goals first | omega | exact main
    · rw [if_neg (fun z => h z.2)] at hK
      simp only [b2i_f h] at x90'
      simp only [s89_0, s89_1, s89_4, s89_7, s89_8, s89_9, s89_10, s89_11, s89_14, s89_17, s89_18, s89_19, s89_22, s89_23, s89_25, s89_28, s89_29, s89_30, s89_31, s89_32, s89_35, s89_38, s89_39, s89_40, s89_41, s89_43, s89_44, Int.reduceToNat, Int.reducePow, Nat.reducePow, Int.reduceLE, Int.reduceLT, Int.reduceNeg, Int.reduceEq, Int.reduceNe, Int.reduceAdd, Int.reduceSub, Int.reduceMul, and_self, sx_push, tf, List.length_cons, List.length_nil, Option.some.injEq, exists_eq_left', Nat.reduceAdd, Nat.reduceLeDiff, true_and, and_true, true_or, or_true, Int.zero_add, Nat.zero_le, eq_self, ne_eq, not_true_eq_false, not_false_eq_true, false_implies, true_implies, implies_true, b2i_0, b2i_1, b2i_01, up_sc, sc_at, sc_sc, ite_true, ite_false, if_true, if_false, Nat.reduceEqDiff, reduceIte, td', tm', x90']
      repeat' (first | intro _ | refine And.intro ?_ ?_)
      all_goals first | omega | exact hK
  · rw [if_neg (fun z => e z.1)] at hK
    simp only [s89_0, s89_1, s89_4, s89_7, s89_8, s89_9, s89_10, s89_11, s89_14, s89_17, s89_18, s89_19, s89_22, s89_23, s89_25, s89_38, s89_39, sx_push, tf, List.length_cons, List.length_nil, Option.some.injEq, exists_eq_left', Nat.reduceAdd, Nat.reduceLeDiff, true_and, and_true, true_or, or_true, Int.zero_add, Nat.zero_le, eq_self, ne_eq, not_true_eq_false, not_false_eq_true, false_implies, true_implies, implies_true, b2i_0, b2i_1, b2i_01, up_sc, sc_at, sc_sc, ite_true, ite_false, if_true, if_false, Nat.reduceEqDiff, reduceIte, td2 hl.1, tm2 hl.1]
    by_cases e3 : σ 2 1 % 2 = 0
    · repeat' (first | intro _ | refine And.intro ?_ ?_)
      all_goals first | omega | exact hK
    · repeat' (first | intro _ | refine And.intro ?_ ?_)
      all_goals first | omega | exact hK
theorem Rel_tp {c d : Int} {σ : sxS} (h : Rel c σ) (hcd : c ≤ d) : Rel d (sc (sc σ 2 (up1 (σ 2) 1 0)) 149 (up1 (σ 149) 8 0)) := by
  have h' := h
  obtain ⟨hP, hO, hM, hH, hT, hR, hS, hF, hQ, hV, hI, hG, hW⟩ := h'
  refine Rel_up h (fun k hk => ?_) (by simp [sc_at, up1]) (by simp [sc_at, up1]) ?_ (by simpa [sc_at] using relR_w hR hcd) (by simpa [sc_at, up1, relS] using hS) (by simpa [sc_at, up1, relF] using hF) (by simpa [sc_at, up1, relQ] using hQ) (by simpa [sc_at, up1, relV] using hV) (by simpa [sc_at, up1, relI] using hI) (by simp [sc_at])
  · unfold ptc at hk
    simp only [sc_at]
    rw [if_neg (by omega), if_neg (by omega)]
  · simp only [sc_at, Nat.reduceEqDiff, if_false, if_true, reduceIte, relT, up1_s]
    exact ⟨by trivial, by omega, fun j j0 j1 => by omega⟩
theorem cl18 {x y z d : Int} : call2 n c 87 234 [some (vR 1), some (vI x), some (vI y), some (vI z), some (vI d), none, none] [some (vR 149), some (vI x), some (vI y), some (vI z), some (vI d), none, none, none, none, none] := fun σ h => by
  have h' := h
  obtain ⟨hP, hO, hM, hH, hT, hR, hS, hF, hQ, hV, hI, hG, hW⟩ := h'
  obtain ⟨t1, t2, t3⟩ := hT
  have x87 : ∀ K : Option sxV → sxT → sxS → Prop, K (some (vI (proveS (σ 150) (σ 154) x y z d (σ 149 8)))) (T0 n) (sc σ 2 (up1 (σ 2) 1 0)) → Rn 87 0 [some (vR 1), some (vI x), some (vI y), some (vI z), some (vI d), none, none] [] (T0 n) σ K := fun K hK => by
    unfold proveS at hK
    by_cases e : ((0 ≤ x ∧ x ≤ 255) ∧ (0 ≤ y ∧ y ≤ 255) ∧ 0 ≤ z ∧ z ≤ 255) ∧ (0 ≤ d ∧ d ≤ 999)
    · have e3 : plc x y z = pk x y z := if_pos e.1
      have pr := pk_rng e.1.1 e.1.2.1 e.1.2.2
      have x89' := fun K => x89 (n := n) (σ := σ) (K := K) (t := σ 154) hP.1.1 hP.1.2.1 hO.1 hO.2.1 e.1.1 e.1.2.1 e.1.2.2 e.2 (by omega) (fun j j0 j1 => (t3 j j0 (by omega)).1)
      rw [t1] at x89'
      have ea : (if (((0 ≤ x ∧ x ≤ 255) ∧ (0 ≤ y ∧ y ≤ 255) ∧ 0 ≤ z ∧ z ≤ 255) ∧ (0 ≤ d ∧ d ≤ 999) ∧ σ 149 8 % 2 = 0 ∧ σ 149 8 ≤ 80) ∧ prH (σ 150) (σ 154) x y z d (σ 149 8 / 2).toNat 0 = true then prN (σ 150) (σ 154) x y z d (σ 149 8 / 2).toNat 40 0 0 else -1) = (if (σ 149 8 % 2 = 0 ∧ σ 149 8 ≤ 80) ∧ prH (σ 150) (σ 154) x y z d (σ 149 8 / 2).toNat 0 = true then prN (σ 150) (σ 154) x y z d (σ 149 8 / 2).toNat 40 0 0 else -1) := by
        generalize prN (σ 150) (σ 154) x y z d (σ 149 8 / 2).toNat 40 0 0 = v
        by_cases q : (σ 149 8 % 2 = 0 ∧ σ 149 8 ≤ 80) ∧ prH (σ 150) (σ 154) x y z d (σ 149 8 / 2).toNat 0 = true
        · rw [if_pos q, if_pos ⟨⟨e.1, e.2, q.1⟩, q.2⟩]
        · rw [if_neg q, if_neg (fun z => q ⟨z.1.2.2, z.2⟩)]
      rw [ea] at hK
      generalize (if (σ 149 8 % 2 = 0 ∧ σ 149 8 ≤ 80) ∧ prH (σ 150) (σ 154) x y z d (σ 149 8 / 2).toNat 0 = true then prN (σ 150) (σ 154) x y z d (σ 149 8 / 2).toNat 40 0 0 else -1) = v at *
      simp only [s87_0, s87_1, s87_2, s87_3, s87_6, s87_8, s87_10, s87_11, s87_14, s87_16, s87_19, s87_22, s87_23, s87_25, s87_27, s87_30, s87_33, s87_34, s87_36, s87_37, s87_40, s87_41, s87_44, s87_46, sx_push, tf, List.length_cons, List.length_nil, Option.some.injEq, exists_eq_left', Nat.reduceAdd, Nat.reduceLeDiff, true_and, and_true, true_or, or_true, Int.zero_add, Nat.zero_le, eq_self, ne_eq, not_true_eq_false, not_false_eq_true, false_implies, true_implies, implies_true, b2i_0, b2i_1, b2i_01, up_sc, sc_at, sc_sc, ite_true, ite_false, if_true, if_false, Nat.reduceEqDiff, reduceIte, x33, e3, x88, x89']
      repeat' (first | intro _ | refine And.intro ?_ ?_)
      all_goals first | omega | exact hK
    · rw [if_neg (fun z => e ⟨z.1.1, z.1.2.1⟩)] at hK
      by_cases e2 : (0 ≤ x ∧ x ≤ 255) ∧ (0 ≤ y ∧ y ≤ 255) ∧ 0 ≤ z ∧ z ≤ 255
      · simp only [s87_0, s87_1, s87_2, s87_3, s87_6, s87_8, s87_10, s87_11, s87_14, s87_16, s87_19, s87_33, s87_34, s87_36, s87_37, s87_40, s87_41, s87_44, s87_46, sx_push, tf, List.length_cons, List.length_nil, Option.some.injEq, exists_eq_left', Nat.reduceAdd, Nat.reduceLeDiff, true_and, and_true, true_or, or_true, Int.zero_add, Nat.zero_le, eq_self, ne_eq, not_true_eq_false, not_false_eq_true, false_implies, true_implies, implies_true, b2i_0, b2i_1, b2i_01, up_sc, sc_at, sc_sc, ite_true, ite_false, if_true, if_false, Nat.reduceEqDiff, reduceIte, x33, x88]
        repeat' (first | intro _ | refine And.intro ?_ ?_)
        all_goals first | omega | exact hK
      · have e3 : plc x y z = -1 := if_neg e2
        simp only [s87_0, s87_1, s87_2, s87_3, s87_6, s87_8, s87_10, s87_11, s87_14, s87_16, s87_19, s87_33, s87_34, s87_36, s87_37, s87_40, s87_41, s87_44, s87_46, sx_push, tf, List.length_cons, List.length_nil, Option.some.injEq, exists_eq_left', Nat.reduceAdd, Nat.reduceLeDiff, true_and, and_true, true_or, or_true, Int.zero_add, Nat.zero_le, eq_self, ne_eq, not_true_eq_false, not_false_eq_true, false_implies, true_implies, implies_true, b2i_0, b2i_1, b2i_01, up_sc, sc_at, sc_sc, ite_true, ite_false, if_true, if_false, Nat.reduceEqDiff, reduceIte, x33, e3, x88]
        repeat' (first | intro _ | refine And.intro ?_ ?_)
        all_goals first | omega | exact hK
  refine x87 _ ⟨rfl, _, rfl, ?_⟩
  have g150 : sc σ 2 (up1 (σ 2) 1 0) 150 = σ 150 := by simp [sc_at]
  have g154 : sc σ 2 (up1 (σ 2) 1 0) 154 = σ 154 := by simp [sc_at]
  have g149 : sc σ 2 (up1 (σ 2) 1 0) 149 = σ 149 := by simp [sc_at]
  rw [x234 (by rw [g150]; exact hO.1) (by rw [g150]; exact hO.2.1) (by rw [g149]; exact t2), g150, g154, g149]
  exact ⟨rfl, rfl, Rel_tp h (by omega), by simp [sc_at]⟩
end V1
