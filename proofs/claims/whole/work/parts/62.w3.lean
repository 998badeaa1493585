/-! what was seen: see -/
def swB (f t : Int → Int) (i : Int) : Bool := decide (((0 ≤ t (4 * i) ∧ t (4 * i) < 40) ∧ f (t (4 * i)) = 1) ∧ ((0 ≤ t (4 * i + 1) ∧ t (4 * i + 1) < 40) ∧ f (t (4 * i + 1)) = 1) ∧ t (4 * i) ≠ t (4 * i + 1))
def swJ (f t : Int → Int) : Nat → Int → Bool
  | 0, _ => true
  | m + 1, i => if swB f t i = true then swJ f t m (i + 1) else false
theorem tm4 {a : Int} (h : 0 ≤ a) : a.tmod 4 = a % 4 := Int.tmod_eq_emod_of_nonneg h
theorem td4 {a : Int} (h : 0 ≤ a) : a.tdiv 4 = a / 4 := Int.tdiv_eq_ediv_of_nonneg h
theorem or8 {a b : Int} (ha : in8 a) (hb : in8 b) : sx_or (a * 256) b = a * 256 + b := by
  unfold in8 at *
  obtain ⟨x, rfl⟩ := Int.eq_ofNat_of_zero_le ha.1
  obtain ⟨y, rfl⟩ := Int.eq_ofNat_of_zero_le hb.1
  rw [show (x : Int) * 256 = ((2 ^ 8 * x : Nat) : Int) by omega, sx_orN (by omega) (by omega), ← Nat.two_pow_add_eq_or_of_lt (by omega)]
  omega
/-- rows as the tape tells them -/
def swR (t a b d : Int → Int) (M : Int) : Prop := ∀ j, 0 ≤ j → j < M → a j = t (4 * j) ∧ b j = t (4 * j + 1) ∧ d j = t (4 * j + 2) * 256 + t (4 * j + 3)
section W3
variable {n : Nat} {c : Int} {σ : sxS} {K : Option sxV → sxT → sxS → Prop} {f t : Int → Int}
theorem x261a {M : Nat} (hM : (M : Int) ≤ 12) : ∀ (m : Nat) (i : Int), i + m = M → 0 ≤ i → (swJ (σ 150) (σ 154) m i = true → Rn 261 95 [some (vR 149), some (vI (4 * M)), some (vI 1), some (vI (4 * M))] [] (T0 n) σ K) → (swJ (σ 150) (σ 154) m i = false → ∀ u, Rn 261 95 [some (vR 149), some (vI (4 * M)), some (vI 0), u] [] (T0 n) σ K) → Rn 261 29 [some (vR 149), some (vI (4 * M)), some (vI 1), some (vI (4 * i))] [] (T0 n) σ K := by
  intro m
  induction m with
  | zero =>
    intro i hi i0 h1 h2
    obtain rfl : i = M := by omega
    have := h1 rfl
    rw [s261_29]
    simp only [s261_30, s261_31, sx_push, tf, List.length_cons, List.length_nil, Option.some.injEq, exists_eq_left', Nat.reduceAdd, Nat.reduceLeDiff, true_and, and_true, true_or, or_true, Int.zero_add, Nat.zero_le, eq_self, ne_eq, not_true_eq_false, not_false_eq_true, false_implies, true_implies, implies_true, b2i_0, b2i_1, b2i_01, up_sc, sc_at, sc_sc, ite_true, ite_false, if_true, if_false, Nat.reduceEqDiff, reduceIte]
    repeat' (first | intro _ | refine And.intro ?_ ?_)
    all_goals first | omega | exact this
  | succ m ih =>
    intro i hi i0 h1 h2
    rw [s261_29]
    unfold swJ at h1 h2
    have e4 : 4 * i + 4 = 4 * (i + 1) := by omega
    by_cases e : swB (σ 150) (σ 154) i = true
    · simp only [if_pos e] at h1 h2
      unfold swB at e
      rw [decide_eq_true_eq] at e
      have ii := ih (i + 1) (by omega) (by omega) h1 h2
      simp only [s261_30, s261_31, s261_34, s261_35, s261_38, s261_39, s261_40, s261_43, s261_44, s261_45, s261_48, s261_51, s261_52, s261_53, s261_56, s261_57, s261_58, s261_59, s261_60, s261_63, s261_66, s261_67, s261_70, s261_71, s261_72, s261_73, s261_76, s261_77, s261_78, s261_79, s261_80, s261_83, s261_84, s261_87, s261_88, s261_89, s261_92, Int.reduceToNat, Int.reducePow, Nat.reducePow, Int.reduceLE, Int.reduceLT, Int.reduceNeg, Int.reduceEq, Int.reduceNe, Int.reduceAdd, Int.reduceSub, Int.reduceMul, and_self, sx_push, tf, List.length_cons, List.length_nil, Option.some.injEq, exists_eq_left', Nat.reduceAdd, Nat.reduceLeDiff, true_and, and_true, true_or, or_true, Int.zero_add, Nat.zero_le, eq_self, ne_eq, not_true_eq_false, not_false_eq_true, false_implies, true_implies, implies_true, b2i_0, b2i_1, b2i_01, up_sc, sc_at, sc_sc, ite_true, ite_false, if_true, if_false, Nat.reduceEqDiff, reduceIte, x205, e4]
      repeat' (first | intro _ | refine And.intro ?_ ?_)
      all_goals first | omega | exact ii
    · simp only [if_neg e] at h1 h2
      have h2 := h2 trivial
      unfold swB at e
      rw [decide_eq_true_eq] at e
      have out : Rn 261 29 [some (vR 149), some (vI (4 * M)), some (vI 0), some (vI (4 * (i + 1)))] [] (T0 n) σ K := by
        rw [s261_29]
        have h2 := h2 (some (vI (4 * (i + 1))))
        simp only [s261_30, s261_31, s261_34, s261_35, Int.reduceToNat, Int.reducePow, Nat.reducePow, Int.reduceLE, Int.reduceLT, Int.reduceNeg, Int.reduceEq, Int.reduceNe, Int.reduceAdd, Int.reduceSub, Int.reduceMul, and_self, sx_push, tf, List.length_cons, List.length_nil, Option.some.injEq, exists_eq_left', Nat.reduceAdd, Nat.reduceLeDiff, true_and, and_true, true_or, or_true, Int.zero_add, Nat.zero_le, eq_self, ne_eq, not_true_eq_false, not_false_eq_true, false_implies, true_implies, implies_true, b2i_0, b2i_1, b2i_01, up_sc, sc_at, sc_sc, ite_true, ite_false, if_true, if_false, Nat.reduceEqDiff, reduceIte]
        repeat' (first | intro _ | refine And.intro ?_ ?_)
        all_goals first | omega | exact h2
      simp only [s261_30, s261_31, s261_34, s261_35, s261_38, s261_39, s261_40, s261_43, s261_44, s261_45, s261_48, s261_51, s261_52, s261_53, s261_56, s261_57, s261_58, s261_59, s261_60, s261_63, s261_66, s261_67, s261_70, s261_71, s261_72, s261_73, s261_76, s261_77, s261_78, s261_79, s261_80, s261_83, s261_84, s261_87, s261_88, s261_89, s261_92, Int.reduceToNat, Int.reducePow, Nat.reducePow, Int.reduceLE, Int.reduceLT, Int.reduceNeg, Int.reduceEq, Int.reduceNe, Int.reduceAdd, Int.reduceSub, Int.reduceMul, and_self, sx_push, tf, List.length_cons, List.length_nil, Option.some.injEq, exists_eq_left', Nat.reduceAdd, Nat.reduceLeDiff, true_and, and_true, true_or, or_true, Int.zero_add, Nat.zero_le, eq_self, ne_eq, not_true_eq_false, not_false_eq_true, false_implies, true_implies, implies_true, b2i_0, b2i_1, b2i_01, up_sc, sc_at, sc_sc, ite_true, ite_false, if_true, if_false, Nat.reduceEqDiff, reduceIte, x205, e4]
      repeat' (first | intro _ | refine And.intro ?_ ?_)
      all_goals first | omega | exact out
theorem x261b {M : Int} (hM : M ≤ 12) : ∀ (m : Nat) (i : Int) (σ : sxS), i + m = M → 0 ≤ i → σ 149 36 = M → (∀ j, 0 ≤ j → j < 48 → in8 (σ 154 j) ∨ 4 * M ≤ j) → swR (σ 154) (σ 166) (σ 167) (σ 168) i → (∀ σ', fr σ σ' 166 168 → swR (σ 154) (σ' 166) (σ' 167) (σ' 168) M → K (some (vI M)) (T0 n) σ') → ∀ u v, Rn 261 114 [some (vR 149), u, v, some (vI i)] [] (T0 n) σ K := by
  intro m
  induction m with
  | zero =>
    intro i σ hi i0 h36 ht hs hK u v
    obtain rfl : i = M := by omega
    have := hK σ fr_rfl hs
    rw [s261_114]
    simp only [s261_115, s261_116, s261_119, s261_189, s261_190, s261_193, sx_push, tf, List.length_cons, List.length_nil, Option.some.injEq, exists_eq_left', Nat.reduceAdd, Nat.reduceLeDiff, true_and, and_true, true_or, or_true, Int.zero_add, Nat.zero_le, eq_self, ne_eq, not_true_eq_false, not_false_eq_true, false_implies, true_implies, implies_true, b2i_0, b2i_1, b2i_01, up_sc, sc_at, sc_sc, ite_true, ite_false, if_true, if_false, Nat.reduceEqDiff, reduceIte, h36]
    repeat' (first | intro _ | refine And.intro ?_ ?_)
    all_goals first | omega | exact this
  | succ m ih =>
    intro i σ hi i0 h36 ht hs hK u v
    rw [s261_114]
    have t2 : in8 (σ 154 (4 * i + 2)) := (ht _ (by omega) (by omega)).elim id (fun z => by omega)
    have t3 : in8 (σ 154 (4 * i + 3)) := (ht _ (by omega) (by omega)).elim id (fun z => by omega)
    unfold in8 at t2 t3
    simp only [s261_115, s261_116, s261_119, s261_122, s261_123, s261_126, s261_127, s261_128, s261_131, s261_132, s261_133, s261_134, s261_135, s261_136, s261_137, s261_140, s261_141, s261_142, s261_145, s261_146, s261_147, s261_148, s261_149, s261_150, s261_151, s261_152, s261_153, s261_156, s261_157, s261_158, s261_161, s261_162, s261_163, s261_164, s261_165, s261_166, s261_167, s261_170, s261_171, s261_172, s261_175, s261_176, s261_177, s261_178, s261_179, s261_180, s261_181, s261_182, s261_183, s261_186, sx_push, tf, List.length_cons, List.length_nil, Option.some.injEq, exists_eq_left', Nat.reduceAdd, Nat.reduceLeDiff, true_and, and_true, true_or, or_true, Int.zero_add, Nat.zero_le, eq_self, ne_eq, not_true_eq_false, not_false_eq_true, false_implies, true_implies, implies_true, b2i_0, b2i_1, b2i_01, up_sc, sc_at, sc_sc, ite_true, ite_false, if_true, if_false, Nat.reduceEqDiff, reduceIte, h36]
    have f1 : fr σ (sc (sc (sc σ 166 (up1 (σ 166) i (σ 154 (4 * i)))) 167 (up1 (σ 167) i (σ 154 (4 * i + 1)))) 168 (up1 (σ 168) i (σ 154 (4 * i + 2) * 256 + σ 154 (4 * i + 3)))) 166 168 := fr_sc (fr_sc (fr_sc fr_rfl (by omega) (by omega)) (by omega) (by omega)) (by omega) (by omega)
    have main := ih (i + 1) (sc (sc (sc σ 166 (up1 (σ 166) i (σ 154 (4 * i)))) 167 (up1 (σ 167) i (σ 154 (4 * i + 1)))) 168 (up1 (σ 168) i (σ 154 (4 * i + 2) * 256 + σ 154 (4 * i + 3)))) (by omega) (by omega) (by rw [f1 149 (by omega)]; exact h36) (by rw [f1 154 (by omega)]; exact ht) (fun j j0 j1 => by
      rw [f1 154 (by omega)]
      simp only [sc_at, Nat.reduceEqDiff, reduceIte]
      by_cases e : j = i
      · rw [e, up1_s, up1_s, up1_s]; exact ⟨rfl, rfl, rfl⟩
      · rw [up1_n e, up1_n e, up1_n e]; exact hs j j0 (by omega)) (fun σ' a1 a2 => hK σ' (fr_tr f1 a1) (by rw [f1 154 (by omega)] at a2; exact a2)) u v
    repeat' (first | intro _ | refine And.intro ?_ ?_)
    all_goals first | omega | exact main
def seeC (f t : Int → Int) (l : Int) : Prop := (0 < l ∧ l % 4 = 0 ∧ l ≤ 48) ∧ swJ f t (l / 4).toNat 0 = true
theorem x261t (h0 : 0 ≤ σ 149 8 ∧ σ 149 8 ≤ 1600) (ht : ∀ j, 0 ≤ j → j < σ 149 8 → in8 (σ 154 j)) (h : seeC (σ 150) (σ 154) (σ 149 8)) (hK : ∀ σ', (∀ k, k ≠ 149 → k ≠ 166 → k ≠ 167 → k ≠ 168 → σ' k = σ k) → σ' 149 = up1 (up1 (σ 149) 8 0) 36 (σ 149 8 / 4) → swR (σ 154) (σ' 166) (σ' 167) (σ' 168) (σ 149 8 / 4) → K (some (vI (σ 149 8 / 4))) (T0 n) σ') : Rn 261 0 [some (vR 149), none, none, none] [] (T0 n) σ K := by
  obtain ⟨⟨h1, h2, h3⟩, h4⟩ := h
  have hM : (((σ 149 8 / 4).toNat : Nat) : Int) ≤ 12 := by omega
  have e2 : σ 149 8 = 4 * ((σ 149 8 / 4).toNat : Nat) := by omega
  have e3 : σ 149 8 / 4 = ((σ 149 8 / 4).toNat : Nat) := by omega
  generalize (σ 149 8 / 4).toNat = M at *
  have g150 : sc σ 149 (up1 (σ 149) 8 0) 150 = σ 150 := by simp [sc_at]
  have g154 : sc σ 149 (up1 (σ 149) 8 0) 154 = σ 154 := by simp [sc_at]
  have tm' : (4 * (M : Int)).tmod 4 = 0 := by rw [tm4 (by omega)]; omega
  have td' : (4 * (M : Int)).tdiv 4 = M := by rw [td4 (by omega)]; omega
  have main : Rn 261 29 [some (vR 149), some (vI (4 * M)), some (vI 1), some (vI (4 * 0))] [] (T0 n) (sc σ 149 (up1 (σ 149) 8 0)) K := by
    refine x261a hM M 0 (by omega) (by omega) (fun _ => ?_) (fun z => ?_)
    · simp only [s261_95, s261_96, s261_99, s261_100, s261_101, s261_104, s261_105, s261_106, s261_107, s261_108, s261_109, s261_112, s261_113, Int.reduceToNat, Int.reducePow, Nat.reducePow, Int.reduceLE, Int.reduceLT, Int.reduceNeg, Int.reduceEq, Int.reduceNe, Int.reduceAdd, Int.reduceSub, Int.reduceMul, and_self, sx_push, tf, List.length_cons, List.length_nil, Option.some.injEq, exists_eq_left', Nat.reduceAdd, Nat.reduceLeDiff, true_and, and_true, true_or, or_true, Int.zero_add, Nat.zero_le, eq_self, ne_eq, not_true_eq_false, not_false_eq_true, false_implies, true_implies, implies_true, b2i_0, b2i_1, b2i_01, up_sc, sc_at, sc_sc, ite_true, ite_false, if_true, if_false, Nat.reduceEqDiff, reduceIte, td']
      refine ⟨by omega, x261b hM M 0 _ (by omega) (by omega) (by simp [sc_at, up1]) (fun j j0 j1 => ?_) (fun j a b => by omega) (fun σ' a1 a2 => ?_) _ _⟩
      · rw [sc_at, if_neg (by decide)]
        by_cases q : j < σ 149 8
        · exact Or.inl (ht j j0 q)
        · exact Or.inr (by omega)
      · rw [← e3]
        refine hK σ' (fun k k1 k2 k3 k4 => ?_) ?_ ?_
        · rw [a1 k (by omega), sc_at, if_neg k1]
        · rw [a1 149 (by omega), sc_at, if_pos rfl, e3]
        · rw [sc_at, if_neg (by decide)] at a2
          rw [e3]; exact a2
    · rw [g150, g154, h4] at z; cases z
  simp only [s261_0, s261_1, s261_4, s261_5, s261_6, s261_9, s261_10, s261_11, s261_12, s261_15, s261_16, s261_18, s261_21, s261_22, s261_25, s261_26, s261_27, s261_28, sx_push, tf, List.length_cons, List.length_nil, Option.some.injEq, exists_eq_left', Nat.reduceAdd, Nat.reduceLeDiff, true_and, and_true, true_or, or_true, Int.zero_add, Nat.zero_le, eq_self, ne_eq, not_true_eq_false, not_false_eq_true, false_implies, true_implies, implies_true, b2i_0, b2i_1, b2i_01, up_sc, sc_at, sc_sc, ite_true, ite_false, if_true, if_false, Nat.reduceEqDiff, reduceIte, x174, e2, tm']
  repeat' (first | intro _ | refine And.intro ?_ ?_)
  all_goals first | omega | exact main
theorem x261f (h0 : 0 ≤ σ 149 8 ∧ σ 149 8 ≤ 1600) (hr : inI (σ 155 1 + 1)) (h : ¬ seeC (σ 150) (σ 154) (σ 149 8)) (hK : K (some (vI (-1))) (T0 n) (sc (sc σ 149 (up1 (σ 149) 8 0)) 155 (up1 (σ 155) 1 (σ 155 1 + 1)))) : Rn 261 0 [some (vR 149), none, none, none] [] (T0 n) σ K := by
  have g150 : sc σ 149 (up1 (σ 149) 8 0) 150 = σ 150 := by simp [sc_at]
  have g154 : sc σ 149 (up1 (σ 149) 8 0) 154 = σ 154 := by simp [sc_at]
  have g155 : sc σ 149 (up1 (σ 149) 8 0) 155 = σ 155 := by simp [sc_at]
  have r169 := fun K => x169 (n := n) (σ := sc σ 149 (up1 (σ 149) 8 0)) (K := K) (w := 1) (by omega) (by omega) (by rw [g155]; exact hr)
  rw [g155] at r169
  have ref : ∀ l u, Rn 261 95 [some (vR 149), some (vI l), some (vI 0), u] [] (T0 n) (sc σ 149 (up1 (σ 149) 8 0)) K := fun l u => by
    simp only [s261_95, s261_96, s261_99, s261_100, s261_101, s261_104, Int.reduceToNat, Int.reducePow, Nat.reducePow, Int.reduceLE, Int.reduceLT, Int.reduceNeg, Int.reduceEq, Int.reduceNe, Int.reduceAdd, Int.reduceSub, Int.reduceMul, and_self, sx_push, tf, List.length_cons, List.length_nil, Option.some.injEq, exists_eq_left', Nat.reduceAdd, Nat.reduceLeDiff, true_and, and_true, true_or, or_true, Int.zero_add, Nat.zero_le, eq_self, ne_eq, not_true_eq_false, not_false_eq_true, false_implies, true_implies, implies_true, b2i_0, b2i_1, b2i_01, up_sc, sc_at, sc_sc, ite_true, ite_false, if_true, if_false, Nat.reduceEqDiff, reduceIte, r169]
    exact hK
  by_cases h1 : 0 < σ 149 8 ∧ σ 149 8 % 4 = 0 ∧ σ 149 8 ≤ 48
  · have hM : (((σ 149 8 / 4).toNat : Nat) : Int) ≤ 12 := by omega
    have e2 : σ 149 8 = 4 * ((σ 149 8 / 4).toNat : Nat) := by omega
    have h4 : ¬ swJ (σ 150) (σ 154) (σ 149 8 / 4).toNat 0 = true := fun z => h ⟨h1, z⟩
    generalize (σ 149 8 / 4).toNat = M at *
    have tm' : (4 * (M : Int)).tmod 4 = 0 := by rw [tm4 (by omega)]; omega
    have main : Rn 261 29 [some (vR 149), some (vI (4 * M)), some (vI 1), some (vI (4 * 0))] [] (T0 n) (sc σ 149 (up1 (σ 149) 8 0)) K := by
      refine x261a hM M 0 (by omega) (by omega) (fun z => ?_) (fun z u => ref _ _)
      rw [g150, g154] at z; exact absurd z h4
    simp only [s261_0, s261_1, s261_4, s261_5, s261_6, s261_9, s261_10, s261_11, s261_12, s261_15, s261_16, s261_18, s261_21, s261_22, s261_25, s261_26, s261_27, s261_28, sx_push, tf, List.length_cons, List.length_nil, Option.some.injEq, exists_eq_left', Nat.reduceAdd, Nat.reduceLeDiff, true_and, and_true, true_or, or_true, Int.zero_add, Nat.zero_le, eq_self, ne_eq, not_true_eq_false, not_false_eq_true, false_implies, true_implies, implies_true, b2i_0, b2i_1, b2i_01, up_sc, sc_at, sc_sc, ite_true, ite_false, if_true, if_false, Nat.reduceEqDiff, reduceIte, x174, e2, tm']
    repeat' (first | intro _ | refine And.intro ?_ ?_)
    all_goals first | omega | exact main
  · have out : ∀ u, Rn 261 29 [some (vR 149), some (vI (σ 149 8)), some (vI 0), some (vI u)] [] (T0 n) (sc σ 149 (up1 (σ 149) 8 0)) K := fun u => by
      rw [s261_29]
      have := ref (σ 149 8) (some (vI u))
      simp only [s261_30, s261_31, s261_34, s261_35, Int.reduceToNat, Int.reducePow, Nat.reducePow, Int.reduceLE, Int.reduceLT, Int.reduceNeg, Int.reduceEq, Int.reduceNe, Int.reduceAdd, Int.reduceSub, Int.reduceMul, and_self, sx_push, tf, List.length_cons, List.length_nil, Option.some.injEq, exists_eq_left', Nat.reduceAdd, Nat.reduceLeDiff, true_and, and_true, true_or, or_true, Int.zero_add, Nat.zero_le, eq_self, ne_eq, not_true_eq_false, not_false_eq_true, false_implies, true_implies, implies_true, b2i_0, b2i_1, b2i_01, up_sc, sc_at, sc_sc, ite_true, ite_false, if_true, if_false, Nat.reduceEqDiff, reduceIte]
      repeat' (first | intro _ | refine And.intro ?_ ?_)
      all_goals first | omega | exact this
    simp only [s261_0, s261_1, s261_4, s261_5, s261_6, s261_9, s261_10, s261_11, s261_12, s261_15, s261_16, s261_18, s261_21, s261_22, s261_25, s261_26, s261_27, s261_28, sx_push, tf, List.length_cons, List.length_nil, Option.some.injEq, exists_eq_left', Nat.reduceAdd, Nat.reduceLeDiff, true_and, and_true, true_or, or_true, Int.zero_add, Nat.zero_le, eq_self, ne_eq, not_true_eq_false, not_false_eq_true, false_implies, true_implies, implies_true, b2i_0, b2i_1, b2i_01, up_sc, sc_at, sc_sc, ite_true, ite_false, if_true, if_false, Nat.reduceEqDiff, reduceIte, x174, tm4 h0.1]
    repeat' (first | intro _ | refine And.intro ?_ ?_)
    all_goals first | omega | exact out _
theorem x132a (hr : rL σ 7 f) {M : Nat} (hM : (M : Int) ≤ 12) (hl : σ 2 1 = 4 * M) (ht : ∀ j : Int, 0 ≤ j → j < 4 * M → σ 3 j = t j) : ∀ (m : Nat) (i : Int) (u v : Option sxV), i + m = M → 0 ≤ i → (swJ f t m i = true → ∀ u v, Rn 132 95 [some (vR 141), some (vR 2), some (vI M), some (vI M), u, v] [] (T0 n) σ K) → (swJ f t m i = false → K (some (vI 0)) (T0 n) σ) → Rn 132 31 [some (vR 141), some (vR 2), some (vI M), some (vI i), u, v] [] (T0 n) σ K := by
  intro m
  induction m with
  | zero =>
    intro i u v hi i0 h1 h2
    obtain rfl : i = M := by omega
    have := h1 rfl u v
    rw [s132_31]
    simp only [s132_32, s132_33, sx_push, tf, List.length_cons, List.length_nil, Option.some.injEq, exists_eq_left', Nat.reduceAdd, Nat.reduceLeDiff, true_and, and_true, true_or, or_true, Int.zero_add, Nat.zero_le, eq_self, ne_eq, not_true_eq_false, not_false_eq_true, false_implies, true_implies, implies_true, b2i_0, b2i_1, b2i_01, up_sc, sc_at, sc_sc, ite_true, ite_false, if_true, if_false, Nat.reduceEqDiff, reduceIte]
    repeat' (first | intro _ | refine And.intro ?_ ?_)
    all_goals first | omega | exact this
  | succ m ih =>
    intro i u v hi i0 h1 h2
    rw [s132_31]
    unfold swJ at h1 h2
    have b1 := fun K => x20 (n := n) (σ := σ) (K := K) (i := 4 * i)
    have b2 := fun K => x20 (n := n) (σ := σ) (K := K) (i := 4 * i + 1)
    rw [if_pos (by omega), ht _ (by omega) (by omega)] at b1
    rw [if_pos (by omega), ht _ (by omega) (by omega)] at b2
    by_cases e : swB f t i = true
    · simp only [if_pos e] at h1 h2
      unfold swB at e
      rw [decide_eq_true_eq] at e
      have ii := fun u v => ih (i + 1) u v (by omega) (by omega) h1 h2
      simp only [s132_32, s132_33, s132_36, s132_37, s132_38, s132_39, s132_40, s132_43, s132_45, s132_46, s132_47, s132_48, s132_49, s132_50, s132_51, s132_54, s132_56, s132_58, s132_60, s132_63, s132_64, s132_67, s132_69, s132_72, s132_75, s132_76, s132_79, s132_81, s132_84, s132_87, s132_88, s132_89, s132_92, sx_push, tf, List.length_cons, List.length_nil, Option.some.injEq, exists_eq_left', Nat.reduceAdd, Nat.reduceLeDiff, true_and, and_true, true_or, or_true, Int.zero_add, Nat.zero_le, eq_self, ne_eq, not_true_eq_false, not_false_eq_true, false_implies, true_implies, implies_true, b2i_0, b2i_1, b2i_01, up_sc, sc_at, sc_sc, ite_true, ite_false, if_true, if_false, Nat.reduceEqDiff, reduceIte, b1, b2, x49 isP7 hr]
      repeat' (first | intro _ | refine And.intro ?_ ?_)
      all_goals first | omega | exact ii _ _
    · simp only [if_neg e] at h1 h2
      have hK := h2 trivial
      unfold swB at e
      rw [decide_eq_true_eq] at e
      simp only [s132_32, s132_33, s132_36, s132_37, s132_38, s132_39, s132_40, s132_43, s132_45, s132_46, s132_47, s132_48, s132_49, s132_50, s132_51, s132_54, s132_56, s132_58, s132_60, s132_63, s132_64, s132_67, s132_69, s132_72, s132_75, s132_76, s132_79, s132_81, s132_84, s132_87, s132_88, s132_89, s132_92, sx_push, tf, List.length_cons, List.length_nil, Option.some.injEq, exists_eq_left', Nat.reduceAdd, Nat.reduceLeDiff, true_and, and_true, true_or, or_true, Int.zero_add, Nat.zero_le, eq_self, ne_eq, not_true_eq_false, not_false_eq_true, false_implies, true_implies, implies_true, b2i_0, b2i_1, b2i_01, up_sc, sc_at, sc_sc, ite_true, ite_false, if_true, if_false, Nat.reduceEqDiff, reduceIte, b1, b2, x49 isP7 hr]
      repeat' (first | intro _ | refine And.intro ?_ ?_)
      all_goals first | omega | exact hK
theorem x132b {M : Int} (hM : M ≤ 12) (ht8 : ∀ j, 0 ≤ j → j < 4 * M → in8 (t j)) : ∀ (m : Nat) (i : Int) (σ : sxS) (u v : Option sxV), i + m = M → 0 ≤ i → σ 2 1 = 4 * M → (∀ j, 0 ≤ j → j < 4 * M → σ 3 j = t j) → swR t (σ 142) (σ 143) (σ 144) i → (∀ σ', fr σ σ' 141 144 → swR t (σ' 142) (σ' 143) (σ' 144) M → σ' 141 = up1 (σ 141) 5 M → K (some (vI 1)) (T0 n) σ') → Rn 132 97 [some (vR 141), some (vR 2), some (vI M), some (vI i), u, v] [] (T0 n) σ K := by
  intro m
  induction m with
  | zero =>
    intro i σ u v hi i0 hl ht hs hK
    obtain rfl : i = M := by omega
    rw [s132_97]
    simp only [s132_98, s132_99, s132_164, s132_165, s132_166, s132_169, s132_170, sx_push, tf, List.length_cons, List.length_nil, Option.some.injEq, exists_eq_left', Nat.reduceAdd, Nat.reduceLeDiff, true_and, and_true, true_or, or_true, Int.zero_add, Nat.zero_le, eq_self, ne_eq, not_true_eq_false, not_false_eq_true, false_implies, true_implies, implies_true, b2i_0, b2i_1, b2i_01, up_sc, sc_at, sc_sc, ite_true, ite_false, if_true, if_false, Nat.reduceEqDiff, reduceIte]
    have := hK (sc σ 141 (up1 (σ 141) 5 i)) (fr_sc fr_rfl (by omega) (by omega)) (by simpa [sc_at] using hs) (by simp [sc_at])
    repeat' (first | intro _ | refine And.intro ?_ ?_)
    all_goals first | omega | exact this
  | succ m ih =>
    intro i σ u v hi i0 hl ht hs hK
    rw [s132_97]
    have f1 : fr σ (sc (sc (sc σ 142 (up1 (σ 142) i (t (4 * i)))) 143 (up1 (σ 143) i (t (4 * i + 1)))) 144 (up1 (σ 144) i (t (4 * i + 2) * 256 + t (4 * i + 3)))) 142 144 := fr_sc (fr_sc (fr_sc fr_rfl (by omega) (by omega)) (by omega) (by omega)) (by omega) (by omega)
    have bt : ∀ (s : sxS) (d : Int), s 2 = σ 2 → s 3 = σ 3 → 0 ≤ d → d < 4 → ∀ K, Rn 20 0 [some (vR 2), some (vI (4 * i + d))] [] (T0 n) s K ↔ K (some (vI (t (4 * i + d)))) (T0 n) s := fun s d s2 s3 d0 d1 K => by
      rw [x20, s2, s3, if_pos (by omega), ht _ (by omega) (by omega)]
    have bt0 : ∀ (s : sxS), s 2 = σ 2 → s 3 = σ 3 → ∀ K, Rn 20 0 [some (vR 2), some (vI (4 * i))] [] (T0 n) s K ↔ K (some (vI (t (4 * i)))) (T0 n) s := fun s s2 s3 K => by
      rw [x20, s2, s3, if_pos (by omega), ht _ (by omega) (by omega)]
    have t2 := ht8 (4 * i + 2) (by omega) (by omega)
    have t3 := ht8 (4 * i + 3) (by omega) (by omega)
    have main := fun u v => ih (i + 1) (sc (sc (sc σ 142 (up1 (σ 142) i (t (4 * i)))) 143 (up1 (σ 143) i (t (4 * i + 1)))) 144 (up1 (σ 144) i (t (4 * i + 2) * 256 + t (4 * i + 3)))) u v (by omega) (by omega) (by rw [f1 2 (by omega)]; exact hl) (by rw [f1 3 (by omega)]; exact ht) (fun j j0 j1 => by
      simp only [sc_at, Nat.reduceEqDiff, reduceIte]
      by_cases e : j = i
      · rw [e, up1_s, up1_s, up1_s]; exact ⟨rfl, rfl, rfl⟩
      · rw [up1_n e, up1_n e, up1_n e]; exact hs j j0 (by omega)) (fun σ' a1 a2 a3 => hK σ' (fr_tr (fr_w f1 (by omega) (by omega)) a1) a2 (by rw [a3, f1 141 (by omega)]))
    simp only [s132_98, s132_99, s132_102, s132_103, s132_106, s132_107, s132_108, s132_109, s132_110, s132_111, sx_push, tf, List.length_cons, List.length_nil, Option.some.injEq, exists_eq_left', Nat.reduceAdd, Nat.reduceLeDiff, true_and, and_true, true_or, or_true, Int.zero_add, Nat.zero_le, eq_self, ne_eq, not_true_eq_false, not_false_eq_true, false_implies, true_implies, implies_true, b2i_0, b2i_1, b2i_01, up_sc, sc_at, sc_sc, ite_true, ite_false, if_true, if_false, Nat.reduceEqDiff, reduceIte, bt0 σ rfl rfl]
    repeat' (first | intro _ | refine And.intro ?_ ?_)
    all_goals first | omega | skip
    simp only [s132_114, s132_115, s132_116, s132_119, s132_120, s132_121, s132_122, s132_123, s132_124, s132_125, s132_126, sx_push, tf, List.length_cons, List.length_nil, Option.some.injEq, exists_eq_left', Nat.reduceAdd, Nat.reduceLeDiff, true_and, and_true, true_or, or_true, Int.zero_add, Nat.zero_le, eq_self, ne_eq, not_true_eq_false, not_false_eq_true, false_implies, true_implies, implies_true, b2i_0, b2i_1, b2i_01, up_sc, sc_at, sc_sc, ite_true, ite_false, if_true, if_false, Nat.reduceEqDiff, reduceIte]
    repeat' (first | intro _ | refine And.intro ?_ ?_)
    all_goals first | omega | skip
    rw [bt _ 1 (by simp [sc_at]) (by simp [sc_at]) (by omega) (by omega)]
    simp only [s132_129, s132_130, s132_131, s132_134, s132_135, s132_136, s132_137, s132_138, s132_139, s132_140, s132_141, sx_push, tf, List.length_cons, List.length_nil, Option.some.injEq, exists_eq_left', Nat.reduceAdd, Nat.reduceLeDiff, true_and, and_true, true_or, or_true, Int.zero_add, Nat.zero_le, eq_self, ne_eq, not_true_eq_false, not_false_eq_true, false_implies, true_implies, implies_true, b2i_0, b2i_1, b2i_01, up_sc, sc_at, sc_sc, ite_true, ite_false, if_true, if_false, Nat.reduceEqDiff, reduceIte]
    repeat' (first | intro _ | refine And.intro ?_ ?_)
    all_goals first | omega | skip
    rw [bt _ 2 (by simp [sc_at]) (by simp [sc_at]) (by omega) (by omega)]
    simp only [s132_144, s132_146, s132_147, s132_148, s132_149, s132_150, s132_151, s132_152, s132_153, Int.reduceToNat, Int.reducePow, Nat.reducePow, Int.reduceLE, Int.reduceLT, Int.reduceNeg, Int.reduceEq, Int.reduceNe, Int.reduceAdd, Int.reduceSub, Int.reduceMul, and_self, sx_push, tf, List.length_cons, List.length_nil, Option.some.injEq, exists_eq_left', Nat.reduceAdd, Nat.reduceLeDiff, true_and, and_true, true_or, or_true, Int.zero_add, Nat.zero_le, eq_self, ne_eq, not_true_eq_false, not_false_eq_true, false_implies, true_implies, implies_true, b2i_0, b2i_1, b2i_01, up_sc, sc_at, sc_sc, ite_true, ite_false, if_true, if_false, Nat.reduceEqDiff, reduceIte]
    unfold in8 at t2 t3
    repeat' (first | intro _ | refine And.intro ?_ ?_)
    all_goals first | omega | skip
    rw [bt _ 3 (by simp [sc_at]) (by simp [sc_at]) (by omega) (by omega)]
    simp only [s132_156, s132_157, s132_158, s132_161, Int.reduceToNat, Int.reducePow, Nat.reducePow, Int.reduceLE, Int.reduceLT, Int.reduceNeg, Int.reduceEq, Int.reduceNe, Int.reduceAdd, Int.reduceSub, Int.reduceMul, and_self, sx_push, tf, List.length_cons, List.length_nil, Option.some.injEq, exists_eq_left', Nat.reduceAdd, Nat.reduceLeDiff, true_and, and_true, true_or, or_true, Int.zero_add, Nat.zero_le, eq_self, ne_eq, not_true_eq_false, not_false_eq_true, false_implies, true_implies, implies_true, b2i_0, b2i_1, b2i_01, up_sc, sc_at, sc_sc, ite_true, ite_false, if_true, if_false, Nat.reduceEqDiff, reduceIte, or8 (a := t (4 * i + 2)) (b := t (4 * i + 3)) t2 t3]
    repeat' (first | intro _ | refine And.intro ?_ ?_)
    all_goals first | omega | exact main _ _
theorem cl32 (hc : c < 100000) : call2 n c 131 261 [some (vR 1), none] [some (vR 149), none, none, none] := fun σ h => by
  have h' := h
  obtain ⟨hP, hO, hM, hH, hT, hR, hS, hF, hQ, hV, hI, hG, hW⟩ := h'
  have rr := Rel_r h hc (w := 1) (by omega) (by omega)
  obtain ⟨t1, t2, t3⟩ := hT
  by_cases e : seeC (σ 150) (σ 154) (σ 149 8)
  · have e' := e
    obtain ⟨⟨h1, h2, h3⟩, h4⟩ := e'
    have fin : ∀ σ1, fr σ σ1 141 144 → swR (σ 154) (σ1 142) (σ1 143) (σ1 144) (σ 149 8 / 4) → σ1 141 = up1 (σ 141) 5 (σ 149 8 / 4) → Rn 261 0 [some (vR 149), none, none, none] [] (T0 n) (sc σ1 2 (up1 (σ 2) 1 0)) (fun r2 T2 σ3 => T2 = T0 n ∧ r2 = some (vI (σ 149 8 / 4)) ∧ Rel (c + 1) σ3 ∧ σ3 0 = σ 0) := fun σ1 a1 a2 a3 => by
      have q : ∀ k, k ≠ 2 → (k < 141 ∨ 144 < k) → sc σ1 2 (up1 (σ 2) 1 0) k = σ k := fun k k1 k2 => by rw [sc_at, if_neg k1, a1 k k2]
      refine x261t (by rw [q 149 (by omega) (by omega)]; exact t2) (by rw [q 149 (by omega) (by omega), q 154 (by omega) (by omega)]; exact fun j j0 j1 => (t3 j j0 j1).2) (by rw [q 149 (by omega) (by omega), q 150 (by omega) (by omega), q 154 (by omega) (by omega)]; exact e) (fun σ2 b1 b2 b3 => ?_)
      rw [q 149 (by omega) (by omega), q 154 (by omega) (by omega)] at b3
      rw [q 149 (by omega) (by omega)] at b2 ⊢
      have g : ∀ k, k ≠ 2 → (k < 141 ∨ 144 < k) → k ≠ 149 → (k < 166 ∨ 168 < k) → σ2 k = σ k := fun k k1 k2 k3 k4 => by rw [b1 k k3 (by omega) (by omega) (by omega), q k k1 k2]
      have gc : ∀ k, 141 ≤ k → k ≤ 144 → σ2 k = σ1 k := fun k k1 k2 => by rw [b1 k (by omega) (by omega) (by omega) (by omega), sc_at, if_neg (by omega)]
      refine ⟨rfl, rfl, Rel_up h (fun k hk => ?_) ?_ ?_ ?_ ?_ ?_ ?_ ?_ ?_ ?_ ?_, g 0 (by omega) (by omega) (by omega) (by omega)⟩
      · unfold ptc at hk; exact g k (by omega) (by omega) (by omega) (by omega)
      · rw [b2, up1_n (by omega), up1_n (by omega)]
      · rw [b2, up1_n (by omega), up1_n (by omega)]
      · rw [b1 2 (by omega) (by omega) (by omega) (by omega), sc_at, if_pos rfl, b2]
        refine ⟨?_, ?_, fun j j0 j1 => ?_⟩
        · rw [up1_s, up1_n (by omega), up1_s]
        · rw [up1_n (by omega), up1_s]; omega
        · rw [up1_n (by omega), up1_s] at j1; omega
      · rw [g 148 (by omega) (by omega) (by omega) (by omega), g 155 (by omega) (by omega) (by omega) (by omega)]; exact relR_w hR (by omega)
      · rw [g 1 (by omega) (by omega) (by omega) (by omega)]; unfold relS; rw [b2, up1_n (by omega), up1_n (by omega)]; exact hS
      · rw [g 4 (by omega) (by omega) (by omega) (by omega)]; unfold relF; rw [b2, up1_n (by omega), up1_n (by omega), up1_n (by omega), up1_n (by omega)]; exact hF
      · rw [g 119 (by omega) (by omega) (by omega) (by omega), g 122 (by omega) (by omega) (by omega) (by omega), g 123 (by omega) (by omega) (by omega) (by omega), g 124 (by omega) (by omega) (by omega) (by omega), g 125 (by omega) (by omega) (by omega) (by omega), g 161 (by omega) (by omega) (by omega) (by omega), b2]
        simpa [up1, relQ] using hQ
      · rw [gc 141 (by omega) (by omega), gc 142 (by omega) (by omega), gc 143 (by omega) (by omega), gc 144 (by omega) (by omega), a3, b2]
        refine ⟨by rw [up1_s, up1_s], by rw [up1_s]; omega, fun k k0 k1 => ?_⟩
        rw [up1_s] at k1
        have z1 := a2 k k0 k1
        have z2 := b3 k k0 k1
        rw [z1.1, z1.2.1, z1.2.2, z2.1, z2.2.1, z2.2.2]
        exact ⟨rfl, rfl, rfl⟩
      · rw [g 146 (by omega) (by omega) (by omega) (by omega), g 147 (by omega) (by omega) (by omega) (by omega), g 169 (by omega) (by omega) (by omega) (by omega), b2]
        simpa [up1, relI] using hI
      · rw [g 119 (by omega) (by omega) (by omega) (by omega), g 126 (by omega) (by omega) (by omega) (by omega)]
        exact ⟨⟨rfl, rfl⟩, rfl⟩
    have hM' : (((σ 149 8 / 4).toNat : Nat) : Int) ≤ 12 := by omega
    have e2 : σ 2 1 = 4 * ((σ 149 8 / 4).toNat : Nat) := by omega
    have e3 : σ 149 8 / 4 = ((σ 149 8 / 4).toNat : Nat) := by omega
    rw [e3] at fin
    have t3' : ∀ j, 0 ≤ j → j < 4 * (((σ 149 8 / 4).toNat : Nat) : Int) → σ 3 j = σ 154 j ∧ in8 (σ 154 j) := fun j a b => t3 j a (by omega)
    generalize (σ 149 8 / 4).toNat = M at *
    have tm' : (4 * (M : Int)).tmod 4 = 0 := by rw [tm4 (by omega)]; omega
    have td' : (4 * (M : Int)).tdiv 4 = M := by rw [td4 (by omega)]; omega
    simp only [s131_0, s131_1, s131_4, s131_5, s131_8, sx_push, tf, List.length_cons, List.length_nil, Option.some.injEq, exists_eq_left', Nat.reduceAdd, Nat.reduceLeDiff, true_and, and_true, true_or, or_true, Int.zero_add, Nat.zero_le, eq_self, ne_eq, not_true_eq_false, not_false_eq_true, false_implies, true_implies, implies_true, b2i_0, b2i_1, b2i_01, up_sc, sc_at, sc_sc, ite_true, ite_false, if_true, if_false, Nat.reduceEqDiff, reduceIte]
    simp only [s132_0, s132_1, s132_4, s132_5, s132_6, s132_7, s132_8, s132_11, s132_12, s132_13, s132_16, s132_17, s132_18, s132_21, s132_22, s132_24, s132_27, s132_28, s132_29, s132_30, sx_push, tf, List.length_cons, List.length_nil, Option.some.injEq, exists_eq_left', Nat.reduceAdd, Nat.reduceLeDiff, true_and, and_true, true_or, or_true, Int.zero_add, Nat.zero_le, eq_self, ne_eq, not_true_eq_false, not_false_eq_true, false_implies, true_implies, implies_true, b2i_0, b2i_1, b2i_01, up_sc, sc_at, sc_sc, ite_true, ite_false, if_true, if_false, Nat.reduceEqDiff, reduceIte, e2, tm', td']
    have main : Rn 132 31 [some (vR 141), some (vR 2), some (vI M), some (vI 0), none, none] [] (T0 n) σ (fun r T' σ' => Rn 131 11 [some (vR 1), none] (sx_push r []) T' σ' (fun r T' σ1 => T' = T0 n ∧ ∃ v, r = some (vI v) ∧ Rn 261 0 [some (vR 149), none, none, none] [] (T0 n) σ1 (fun r2 T2 σ2 => T2 = T0 n ∧ r2 = some (vI v) ∧ Rel (c + 1) σ2 ∧ σ2 0 = σ 0))) := by
      refine x132a (t := σ 154) hP.1.1 hM' e2 (fun j a b => (t3' j a b).1) M 0 _ _ (by omega) (by omega) (fun _ u v => ?_) (fun z => by rw [h4] at z; cases z)
      simp only [s132_95, s132_96, sx_push, tf, List.length_cons, List.length_nil, Option.some.injEq, exists_eq_left', Nat.reduceAdd, Nat.reduceLeDiff, true_and, and_true, true_or, or_true, Int.zero_add, Nat.zero_le, eq_self, ne_eq, not_true_eq_false, not_false_eq_true, false_implies, true_implies, implies_true, b2i_0, b2i_1, b2i_01, up_sc, sc_at, sc_sc, ite_true, ite_false, if_true, if_false, Nat.reduceEqDiff, reduceIte]
      refine x132b (t := σ 154) hM' (fun j a b => (t3' j a b).2) M 0 σ _ _ (by omega) (by omega) e2 (fun j a b => (t3' j a b).1) (fun j a b => by omega) (fun σ1 a1 a2 a3 => ?_)
      have s2 : σ1 2 = σ 2 := a1 2 (by omega)
      have s5 : σ1 141 5 = M := by rw [a3, up1_s]
      simp only [s131_11, s131_12, s131_13, s131_16, s131_17, s131_20, s131_21, s131_24, s131_25, s131_28, s131_31, s131_34, s131_35, s131_36, s131_39, Int.reduceToNat, Int.reducePow, Nat.reducePow, Int.reduceLE, Int.reduceLT, Int.reduceNeg, Int.reduceEq, Int.reduceNe, Int.reduceAdd, Int.reduceSub, Int.reduceMul, and_self, sx_push, tf, List.length_cons, List.length_nil, Option.some.injEq, exists_eq_left', Nat.reduceAdd, Nat.reduceLeDiff, true_and, and_true, true_or, or_true, Int.zero_add, Nat.zero_le, eq_self, ne_eq, not_true_eq_false, not_false_eq_true, false_implies, true_implies, implies_true, b2i_0, b2i_1, b2i_01, up_sc, sc_at, sc_sc, ite_true, ite_false, if_true, if_false, Nat.reduceEqDiff, reduceIte, s2, s5]
      exact ⟨_, rfl, fin σ1 a1 a2 a3⟩
    repeat' (first | intro _ | refine And.intro ?_ ?_)
    all_goals first | omega | exact main
  · have fin : Rn 261 0 [some (vR 149), none, none, none] [] (T0 n) (sc (sc σ 2 (up1 (σ 2) 1 0)) 148 (up1 (σ 148) 1 (σ 148 1 + 1))) (fun r2 T2 σ3 => T2 = T0 n ∧ r2 = some (vI (-1)) ∧ Rel (c + 1) σ3 ∧ σ3 0 = σ 0) := by
      refine x261f (by simp [sc_at]; exact t2) (by simpa [sc_at] using rr.2) (by simpa [sc_at] using e) ⟨rfl, rfl, ?_, by simp [sc_at]⟩
      have := Rel_ref (Rel_tp h (by omega : c ≤ c)) (w := 1) (by omega) (by omega)
      refine Rel_cg this (fun k hk => ?_) ?_ ?_ ?_
      · unfold scr at hk
        simp only [sc_at, Nat.reduceEqDiff, reduceIte]
        by_cases k2 : k = 2
        · subst k2; simp
        · by_cases k148 : k = 148
          · subst k148; simp
          · by_cases k155 : k = 155
            · subst k155; simp
            · simp [k2, k148, k155]
      · simp [sc_at]; exact f149_rfl
      · simp [sc_at]
      · simp [sc_at]
    have ref : ∀ K' : Option sxV → sxT → sxS → Prop, K' (some (vI (-1))) (T0 n) (sc (sc σ 2 (up1 (σ 2) 1 0)) 148 (up1 (σ 148) 1 (σ 148 1 + 1))) → Rn 131 11 [some (vR 1), none] [vI 0] (T0 n) σ K' := fun K' hK' => by
      have g148 : sc σ 2 (up1 (σ 2) 1 0) 148 = σ 148 := by simp [sc_at]
      have r12 := fun K => x12 (n := n) (σ := sc σ 2 (up1 (σ 2) 1 0)) (K := K) (w := 1) (by omega) (by omega) (by rw [g148]; exact rr.1)
      rw [g148] at r12
      simp only [s131_11, s131_12, s131_13, s131_16, s131_17, s131_20, s131_21, s131_34, s131_35, s131_36, s131_39, Int.reduceToNat, Int.reducePow, Nat.reducePow, Int.reduceLE, Int.reduceLT, Int.reduceNeg, Int.reduceEq, Int.reduceNe, Int.reduceAdd, Int.reduceSub, Int.reduceMul, and_self, sx_push, tf, List.length_cons, List.length_nil, Option.some.injEq, exists_eq_left', Nat.reduceAdd, Nat.reduceLeDiff, true_and, and_true, true_or, or_true, Int.zero_add, Nat.zero_le, eq_self, ne_eq, not_true_eq_false, not_false_eq_true, false_implies, true_implies, implies_true, b2i_0, b2i_1, b2i_01, up_sc, sc_at, sc_sc, ite_true, ite_false, if_true, if_false, Nat.reduceEqDiff, reduceIte, r12]
      exact hK'
    simp only [s131_0, s131_1, s131_4, s131_5, s131_8, sx_push, tf, List.length_cons, List.length_nil, Option.some.injEq, exists_eq_left', Nat.reduceAdd, Nat.reduceLeDiff, true_and, and_true, true_or, or_true, Int.zero_add, Nat.zero_le, eq_self, ne_eq, not_true_eq_false, not_false_eq_true, false_implies, true_implies, implies_true, b2i_0, b2i_1, b2i_01, up_sc, sc_at, sc_sc, ite_true, ite_false, if_true, if_false, Nat.reduceEqDiff, reduceIte]
    by_cases h1 : 0 < σ 149 8 ∧ σ 149 8 % 4 = 0 ∧ σ 149 8 ≤ 48
    · have h4 : ¬ swJ (σ 150) (σ 154) (σ 149 8 / 4).toNat 0 = true := fun z => e ⟨h1, z⟩
      have hM' : (((σ 149 8 / 4).toNat : Nat) : Int) ≤ 12 := by omega
      have e2 : σ 2 1 = 4 * ((σ 149 8 / 4).toNat : Nat) := by omega
      have t3' : ∀ j, 0 ≤ j → j < 4 * (((σ 149 8 / 4).toNat : Nat) : Int) → σ 3 j = σ 154 j ∧ in8 (σ 154 j) := fun j a b => t3 j a (by omega)
      generalize (σ 149 8 / 4).toNat = M at *
      have tm' : (4 * (M : Int)).tmod 4 = 0 := by rw [tm4 (by omega)]; omega
      have td' : (4 * (M : Int)).tdiv 4 = M := by rw [td4 (by omega)]; omega
      simp only [s132_0, s132_1, s132_4, s132_5, s132_6, s132_7, s132_8, s132_11, s132_12, s132_13, s132_16, s132_17, s132_18, s132_21, s132_22, s132_24, s132_27, s132_28, s132_29, s132_30, sx_push, tf, List.length_cons, List.length_nil, Option.some.injEq, exists_eq_left', Nat.reduceAdd, Nat.reduceLeDiff, true_and, and_true, true_or, or_true, Int.zero_add, Nat.zero_le, eq_self, ne_eq, not_true_eq_false, not_false_eq_true, false_implies, true_implies, implies_true, b2i_0, b2i_1, b2i_01, up_sc, sc_at, sc_sc, ite_true, ite_false, if_true, if_false, Nat.reduceEqDiff, reduceIte, e2, tm', td']
      have main : Rn 132 31 [some (vR 141), some (vR 2), some (vI M), some (vI 0), none, none] [] (T0 n) σ (fun r T' σ' => Rn 131 11 [some (vR 1), none] (sx_push r []) T' σ' (fun r T' σ1 => T' = T0 n ∧ ∃ v, r = some (vI v) ∧ Rn 261 0 [some (vR 149), none, none, none] [] (T0 n) σ1 (fun r2 T2 σ2 => T2 = T0 n ∧ r2 = some (vI v) ∧ Rel (c + 1) σ2 ∧ σ2 0 = σ 0))) :=
        x132a (t := σ 154) hP.1.1 hM' e2 (fun j a b => (t3' j a b).1) M 0 _ _ (by omega) (by omega) (fun z => absurd z h4) (fun _ => ref _ ⟨rfl, _, rfl, fin⟩)
      repeat' (first | intro _ | refine And.intro ?_ ?_)
      all_goals first | omega | exact main
    · simp only [s132_0, s132_1, s132_4, s132_5, s132_6, s132_7, s132_8, s132_11, s132_12, s132_13, s132_16, s132_17, s132_18, s132_21, s132_22, s132_24, s132_27, s132_28, sx_push, tf, List.length_cons, List.length_nil, Option.some.injEq, exists_eq_left', Nat.reduceAdd, Nat.reduceLeDiff, true_and, and_true, true_or, or_true, Int.zero_add, Nat.zero_le, eq_self, ne_eq, not_true_eq_false, not_false_eq_true, false_implies, true_implies, implies_true, b2i_0, b2i_1, b2i_01, up_sc, sc_at, sc_sc, ite_true, ite_false, if_true, if_false, Nat.reduceEqDiff, reduceIte, t1, tm4 t2.1, td4 t2.1]
      repeat' (first | intro _ | refine And.intro ?_ ?_)
      all_goals first | omega | exact ref _ ⟨rfl, _, rfl, fin⟩
end W3
