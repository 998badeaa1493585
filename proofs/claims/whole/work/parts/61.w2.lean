/-! what was seen: fits, tells; the class -/
def ftC (σ : sxS) (f : Int → Int) (m : Int) : Bool := fitJ f (σ 142) (σ 143) (σ 144) m (σ 141 5).toNat 0
section W2
variable {n : Nat} {c : Int} {σ : sxS} {K : Option sxV → sxT → sxS → Prop} {f : Int → Int} {ft : Int → Bool}
theorem x136l (hr : rL σ 7 f) (hw : wfc f) {m : Int} (h5 : 0 ≤ σ 141 5 ∧ σ 141 5 ≤ 12) : ∀ (r : Nat) (k : Int) (u v : Option sxV), k + r = σ 141 5 → 0 ≤ k → K (some (vI (b2i (fitJ f (σ 142) (σ 143) (σ 144) m r k = true)))) (T0 n) σ → Rn 136 2 [some (vR 141), some (vI m), some (vI k), u, v] [] (T0 n) σ K := by
  intro r
  induction r with
  | zero =>
    intro k u v hk k0 hK
    unfold fitJ at hK
    rw [b2i_t rfl] at hK
    rw [s136_2]
    simp only [s136_3, s136_4, s136_7, s136_88, s136_89, sx_push, tf, List.length_cons, List.length_nil, Option.some.injEq, exists_eq_left', Nat.reduceAdd, Nat.reduceLeDiff, true_and, and_true, true_or, or_true, Int.zero_add, Nat.zero_le, eq_self, ne_eq, not_true_eq_false, not_false_eq_true, false_implies, true_implies, implies_true, b2i_0, b2i_1, b2i_01, up_sc, sc_at, sc_sc, ite_true, ite_false, if_true, if_false, Nat.reduceEqDiff, reduceIte]
    repeat' (first | intro _ | refine And.intro ?_ ?_)
    all_goals first | omega | exact hK
  | succ r ih =>
    intro k u v hk k0 hK
    rw [s136_2]
    unfold fitJ at hK
    by_cases e : ((0 ≤ σ 142 k ∧ σ 142 k < 40) ∧ f (σ 142 k) = 1) ∧ ((0 ≤ σ 143 k ∧ σ 143 k < 40) ∧ f (σ 143 k) = 1)
    · have a49 := fun K => x49 (n := n) (σ := σ) (K := K) isP7 hr (p := σ 142 k)
      have b49 := fun K => x49 (n := n) (σ := σ) (K := K) isP7 hr (p := σ 143 k)
      rw [b2i_t e.1] at a49
      rw [b2i_t e.2] at b49
      have w1 := hw _ e.1.1.1 e.1.1.2
      have w2 := hw _ e.2.1.1 e.2.1.2
      rcases rL7 hr _ e.1.1.1 e.1.1.2 with ⟨c1, c2, c3, c4, c5, c6⟩ | z
      · rcases rL7 hr _ e.2.1.1 e.2.1.2 with ⟨d1, d2, d3, d4, d5, d6⟩ | z
        · simp only [s136_3, s136_4, s136_7, s136_10, s136_11, s136_14, s136_15, s136_16, s136_17, s136_18, s136_21, s136_22, s136_23, s136_25, s136_26, s136_29, s136_30, s136_33, s136_36, s136_37, s136_40, s136_42, s136_45, s136_48, s136_49, s136_50, s136_53, s136_56, s136_57, s136_58, s136_59, s136_62, s136_65, s136_67, s136_68, s136_71, s136_72, s136_75, s136_76, s136_77, s136_80, s136_81, s136_82, s136_85, Int.reduceToNat, Int.reducePow, Nat.reducePow, Int.reduceLE, Int.reduceLT, Int.reduceNeg, Int.reduceEq, Int.reduceNe, Int.reduceAdd, Int.reduceSub, Int.reduceMul, and_self, sx_push, tf, List.length_cons, List.length_nil, Option.some.injEq, exists_eq_left', Nat.reduceAdd, Nat.reduceLeDiff, true_and, and_true, true_or, or_true, Int.zero_add, Nat.zero_le, eq_self, ne_eq, not_true_eq_false, not_false_eq_true, false_implies, true_implies, implies_true, b2i_0, b2i_1, b2i_01, up_sc, sc_at, sc_sc, ite_true, ite_false, if_true, if_false, Nat.reduceEqDiff, reduceIte, a49, b49, c5, d5, x40 w1.1 w1.2.1 w1.2.2 w2.1 w2.2.1 w2.2.2]
          have hA : farF m (f (40 + σ 142 k)) (f (80 + σ 142 k)) (f (120 + σ 142 k)) (f (40 + σ 143 k)) (f (80 + σ 143 k)) (f (120 + σ 143 k)) = farA f m (σ 142 k) (σ 143 k) := rfl
          rw [hA]
          by_cases e2 : farA f m (σ 142 k) (σ 143 k) = σ 144 k
          · rw [if_neg (fun z => z.2 e2)] at hK
            repeat' (first | intro _ | refine And.intro ?_ ?_)
            all_goals first | omega | contradiction | exact ih _ _ _ (by omega) (by omega) hK
          · rw [if_pos ⟨e, e2⟩, b2i_f (by decide)] at hK
            repeat' (first | intro _ | refine And.intro ?_ ?_)
            all_goals first | omega | contradiction | exact hK
        · omega
      · omega
    · rw [if_neg (fun z => e z.1)] at hK
      simp only [s136_3, s136_4, s136_7, s136_10, s136_11, s136_14, s136_15, s136_16, s136_17, s136_18, s136_21, s136_22, s136_23, s136_25, s136_26, s136_29, s136_30, s136_33, s136_36, s136_37, s136_40, s136_42, s136_45, s136_82, s136_85, sx_push, tf, List.length_cons, List.length_nil, Option.some.injEq, exists_eq_left', Nat.reduceAdd, Nat.reduceLeDiff, true_and, and_true, true_or, or_true, Int.zero_add, Nat.zero_le, eq_self, ne_eq, not_true_eq_false, not_false_eq_true, false_implies, true_implies, implies_true, b2i_0, b2i_1, b2i_01, up_sc, sc_at, sc_sc, ite_true, ite_false, if_true, if_false, Nat.reduceEqDiff, reduceIte, x49 isP7 hr]
      repeat' (first | intro _ | refine And.intro ?_ ?_)
      all_goals first | omega | exact ih _ _ _ (by omega) (by omega) hK
theorem x136 (hr : rL σ 7 f) (hw : wfc f) {m : Int} (h5 : 0 ≤ σ 141 5 ∧ σ 141 5 ≤ 12) : Rn 136 0 [some (vR 141), some (vI m), none, none, none] [] (T0 n) σ K ↔ K (some (vI (b2i (ftC σ f m = true)))) (T0 n) σ := by
  refine Rn_iff fun K hK => ?_
  simp only [s136_0, s136_1, s136_3, s136_4, s136_7, s136_10, s136_11, s136_14, s136_15, s136_16, s136_17, s136_18, s136_21, s136_22, s136_23, s136_25, s136_26, s136_29, s136_30, s136_33, s136_36, s136_37, s136_40, s136_42, s136_45, s136_48, s136_49, s136_50, s136_53, s136_56, s136_57, s136_58, s136_59, s136_62, s136_65, s136_67, s136_68, s136_71, s136_72, s136_75, s136_76, s136_77, s136_80, s136_81, s136_82, s136_85, s136_88, s136_89, sx_push, tf, List.length_cons, List.length_nil, Option.some.injEq, exists_eq_left', Nat.reduceAdd, Nat.reduceLeDiff, true_and, and_true, true_or, or_true, Int.zero_add, Nat.zero_le, eq_self, ne_eq, not_true_eq_false, not_false_eq_true, false_implies, true_implies, implies_true, b2i_0, b2i_1, b2i_01, up_sc, sc_at, sc_sc, ite_true, ite_false, if_true, if_false, Nat.reduceEqDiff, reduceIte]
  exact x136l hr hw h5 _ 0 _ _ (by omega) (by omega) hK
theorem x135 (hr : rL σ 7 f) (hw : wfc f) (h5 : 0 ≤ σ 141 5 ∧ σ 141 5 ≤ 12) (hK : ∀ σ', fr σ σ' 145 145 → (∀ m, 0 ≤ m → m < 3 → σ' 145 m = b2i (ftC σ f m = true)) → K none (T0 n) σ') : Rn 135 0 [some (vR 141), none] [] (T0 n) σ K := by
  have go : ∀ (k : Nat) (i : Int) (σ' : sxS), i + k = 3 → 0 ≤ i → fr σ σ' 145 145 → (∀ m, 0 ≤ m → m < i → σ' 145 m = b2i (ftC σ f m = true)) → Rn 135 2 [some (vR 141), some (vI i)] [] (T0 n) σ' K := by
    intro k
    induction k with
    | zero =>
      intro i σ' hi i0 hf hm
      rw [s135_2]
      simp only [s135_3, s135_4, s135_24, sx_push, tf, List.length_cons, List.length_nil, Option.some.injEq, exists_eq_left', Nat.reduceAdd, Nat.reduceLeDiff, true_and, and_true, true_or, or_true, Int.zero_add, Nat.zero_le, eq_self, ne_eq, not_true_eq_false, not_false_eq_true, false_implies, true_implies, implies_true, b2i_0, b2i_1, b2i_01, up_sc, sc_at, sc_sc, ite_true, ite_false, if_true, if_false, Nat.reduceEqDiff, reduceIte]
      have := hK σ' hf (fun m a b => hm m a (by omega))
      repeat' (first | intro _ | refine And.intro ?_ ?_)
      all_goals first | omega | exact this
    | succ k ih =>
      intro i σ' hi i0 hf hm
      rw [s135_2]
      have e1 : ftC σ' f i = ftC σ f i := by unfold ftC; rw [hf 141 (by omega), hf 142 (by omega), hf 143 (by omega), hf 144 (by omega)]
      have x136' := fun K => x136 (n := n) (σ := σ') (K := K) (rL_fr hf (by omega) hr) hw (m := i) (by rw [hf 141 (by omega)]; exact h5)
      rw [e1] at x136'
      simp only [s135_3, s135_4, s135_7, s135_8, s135_11, s135_12, s135_13, s135_14, s135_17, s135_18, s135_21, sx_push, tf, List.length_cons, List.length_nil, Option.some.injEq, exists_eq_left', Nat.reduceAdd, Nat.reduceLeDiff, true_and, and_true, true_or, or_true, Int.zero_add, Nat.zero_le, eq_self, ne_eq, not_true_eq_false, not_false_eq_true, false_implies, true_implies, implies_true, b2i_0, b2i_1, b2i_01, up_sc, sc_at, sc_sc, ite_true, ite_false, if_true, if_false, Nat.reduceEqDiff, reduceIte, x136']
      have main : Rn 135 2 [some (vR 141), some (vI (i + 1))] [] (T0 n) (sc σ' 145 (up1 (σ' 145) i (b2i (ftC σ f i = true)))) K := by
        refine ih (i + 1) _ (by omega) (by omega) (fr_sc hf (by omega) (by omega)) (fun m a b => ?_)
        simp only [sc_at, reduceIte]
        by_cases e : m = i
        · rw [e, up1_s]
        · rw [up1_n e]; exact hm m a (by omega)
      repeat' (first | intro _ | refine And.intro ?_ ?_)
      all_goals first | omega | exact main | (by_cases q : ftC σ f i = true; exact Or.inr (b2i_t q); exact Or.inl q)
  simp only [s135_0, s135_1, sx_push, tf, List.length_cons, List.length_nil, Option.some.injEq, exists_eq_left', Nat.reduceAdd, Nat.reduceLeDiff, true_and, and_true, true_or, or_true, Int.zero_add, Nat.zero_le, eq_self, ne_eq, not_true_eq_false, not_false_eq_true, false_implies, true_implies, implies_true, b2i_0, b2i_1, b2i_01, up_sc, sc_at, sc_sc, ite_true, ite_false, if_true, if_false, Nat.reduceEqDiff, reduceIte]
  exact go 3 0 σ (by omega) (by omega) fr_rfl (fun m a b => by omega)
theorem x134l (hf : ∀ m, 0 ≤ m → m < 3 → σ 145 m = b2i (ft m = true)) : ∀ (k : Nat) (m a : Int), m + k = 3 → 0 ≤ m → 0 ≤ a → a ≤ m → K (some (vI (cnt ft k m a))) (T0 n) σ → Rn 134 8 [some (vR 141), some (vI a), some (vI m)] [] (T0 n) σ K := by
  intro k
  induction k with
  | zero =>
    intro m a hm m0 a0 a1 hK
    rw [s134_8]
    simp only [s134_9, s134_10, s134_13, s134_14, s134_17, s134_18, s134_19, s134_22, s134_25, s134_28, s134_31, s134_32, sx_push, tf, List.length_cons, List.length_nil, Option.some.injEq, exists_eq_left', Nat.reduceAdd, Nat.reduceLeDiff, true_and, and_true, true_or, or_true, Int.zero_add, Nat.zero_le, eq_self, ne_eq, not_true_eq_false, not_false_eq_true, false_implies, true_implies, implies_true, b2i_0, b2i_1, b2i_01, up_sc, sc_at, sc_sc, ite_true, ite_false, if_true, if_false, Nat.reduceEqDiff, reduceIte]
    repeat' (first | intro _ | refine And.intro ?_ ?_)
    all_goals first | omega | exact hK
  | succ k ih =>
    intro m a hm m0 a0 a1 hK
    rw [s134_8]
    rw [cnt_s] at hK
    have z := hf m m0 (by omega)
    by_cases e : ft m = true
    · rw [if_pos e] at hK
      rw [b2i_t e] at z
      simp only [s134_9, s134_10, s134_13, s134_14, s134_17, s134_18, s134_19, s134_22, s134_25, s134_28, Int.reduceToNat, Int.reducePow, Nat.reducePow, Int.reduceLE, Int.reduceLT, Int.reduceNeg, Int.reduceEq, Int.reduceNe, Int.reduceAdd, Int.reduceSub, Int.reduceMul, and_self, sx_push, tf, List.length_cons, List.length_nil, Option.some.injEq, exists_eq_left', Nat.reduceAdd, Nat.reduceLeDiff, true_and, and_true, true_or, or_true, Int.zero_add, Nat.zero_le, eq_self, ne_eq, not_true_eq_false, not_false_eq_true, false_implies, true_implies, implies_true, b2i_0, b2i_1, b2i_01, up_sc, sc_at, sc_sc, ite_true, ite_false, if_true, if_false, Nat.reduceEqDiff, reduceIte, z]
      repeat' (first | intro _ | refine And.intro ?_ ?_)
      all_goals first | omega | contradiction | exact ih _ _ (by omega) (by omega) (by omega) (by omega) hK
    · rw [if_neg e] at hK
      rw [b2i_f e] at z
      simp only [s134_9, s134_10, s134_13, s134_14, s134_17, s134_18, s134_19, s134_22, s134_25, s134_28, Int.reduceToNat, Int.reducePow, Nat.reducePow, Int.reduceLE, Int.reduceLT, Int.reduceNeg, Int.reduceEq, Int.reduceNe, Int.reduceAdd, Int.reduceSub, Int.reduceMul, and_self, sx_push, tf, List.length_cons, List.length_nil, Option.some.injEq, exists_eq_left', Nat.reduceAdd, Nat.reduceLeDiff, true_and, and_true, true_or, or_true, Int.zero_add, Nat.zero_le, eq_self, ne_eq, not_true_eq_false, not_false_eq_true, false_implies, true_implies, implies_true, b2i_0, b2i_1, b2i_01, up_sc, sc_at, sc_sc, ite_true, ite_false, if_true, if_false, Nat.reduceEqDiff, reduceIte, z]
      repeat' (first | intro _ | refine And.intro ?_ ?_)
      all_goals first | omega | contradiction | exact ih _ _ (by omega) (by omega) (by omega) (by omega) hK
theorem x134 (hr : rL σ 7 f) (hw : wfc f) (h5 : 0 ≤ σ 141 5 ∧ σ 141 5 ≤ 12) (hK : ∀ σ', fr σ σ' 145 145 → K (some (vI (cnt (ftC σ f) 3 0 0))) (T0 n) σ') : Rn 134 0 [some (vR 141), none, none] [] (T0 n) σ K := by
  simp only [s134_0, s134_1, sx_push, tf, List.length_cons, List.length_nil, Option.some.injEq, exists_eq_left', Nat.reduceAdd, Nat.reduceLeDiff, true_and, and_true, true_or, or_true, Int.zero_add, Nat.zero_le, eq_self, ne_eq, not_true_eq_false, not_false_eq_true, false_implies, true_implies, implies_true, b2i_0, b2i_1, b2i_01, up_sc, sc_at, sc_sc, ite_true, ite_false, if_true, if_false, Nat.reduceEqDiff, reduceIte]
  refine x135 hr hw h5 (fun σ' a1 a2 => ?_)
  simp only [s134_4, s134_5, s134_6, s134_7, sx_push, tf, List.length_cons, List.length_nil, Option.some.injEq, exists_eq_left', Nat.reduceAdd, Nat.reduceLeDiff, true_and, and_true, true_or, or_true, Int.zero_add, Nat.zero_le, eq_self, ne_eq, not_true_eq_false, not_false_eq_true, false_implies, true_implies, implies_true, b2i_0, b2i_1, b2i_01, up_sc, sc_at, sc_sc, ite_true, ite_false, if_true, if_false, Nat.reduceEqDiff, reduceIte]
  exact x134l a2 3 0 0 (by omega) (by omega) (by omega) (by omega) (hK σ' a1)
theorem x137l {kk : Int} (hk : 0 ≤ kk) (hi : inI kk) (hf : ∀ m, 0 ≤ m → m < 3 → σ 145 m = b2i (ft m = true)) : ∀ (k : Nat) (m a : Int), m + k = 3 → 0 ≤ m → 0 ≤ a → a ≤ kk → K (some (vI (kth ft kk k m a))) (T0 n) σ → Rn 137 8 [some (vR 141), some (vI kk), some (vI (kk - a)), some (vI m)] [] (T0 n) σ K := by
  intro k
  induction k with
  | zero =>
    intro m a hm m0 a0 a1 hK
    unfold kth at hK
    rw [if_neg (by omega)] at hK
    rw [s137_8]
    simp only [s137_9, s137_10, s137_13, s137_14, s137_17, s137_18, s137_19, s137_22, s137_23, s137_26, s137_27, s137_28, s137_31, s137_34, s137_37, s137_38, sx_push, tf, List.length_cons, List.length_nil, Option.some.injEq, exists_eq_left', Nat.reduceAdd, Nat.reduceLeDiff, true_and, and_true, true_or, or_true, Int.zero_add, Nat.zero_le, eq_self, ne_eq, not_true_eq_false, not_false_eq_true, false_implies, true_implies, implies_true, b2i_0, b2i_1, b2i_01, up_sc, sc_at, sc_sc, ite_true, ite_false, if_true, if_false, Nat.reduceEqDiff, reduceIte]
    repeat' (first | intro _ | refine And.intro ?_ ?_)
    all_goals first | omega | exact hK
  | succ k ih =>
    intro m a hm m0 a0 a1 hK
    rw [s137_8]
    unfold kth at hK
    have z := hf m m0 (by omega)
    have e0 : kk - a + -1 = kk - (a + 1) := by omega
    by_cases e : ft m = true
    · rw [if_pos e] at hK
      rw [b2i_t e] at z
      simp only [s137_9, s137_10, s137_13, s137_14, s137_17, s137_18, s137_19, s137_22, s137_23, s137_26, s137_27, s137_28, s137_31, s137_34, Int.reduceToNat, Int.reducePow, Nat.reducePow, Int.reduceLE, Int.reduceLT, Int.reduceNeg, Int.reduceEq, Int.reduceNe, Int.reduceAdd, Int.reduceSub, Int.reduceMul, and_self, sx_push, tf, List.length_cons, List.length_nil, Option.some.injEq, exists_eq_left', Nat.reduceAdd, Nat.reduceLeDiff, true_and, and_true, true_or, or_true, Int.zero_add, Nat.zero_le, eq_self, ne_eq, not_true_eq_false, not_false_eq_true, false_implies, true_implies, implies_true, b2i_0, b2i_1, b2i_01, up_sc, sc_at, sc_sc, ite_true, ite_false, if_true, if_false, Nat.reduceEqDiff, reduceIte, z, e0]
      repeat' (first | intro _ | refine And.intro ?_ ?_)
      all_goals first | omega | contradiction | (split at hK <;> first | exact hK | omega | exact ih _ _ (by omega) (by omega) (by omega) (by omega) hK)
    · rw [if_neg e] at hK
      rw [b2i_f e] at z
      simp only [s137_9, s137_10, s137_13, s137_14, s137_17, s137_18, s137_19, s137_22, s137_23, s137_26, s137_27, s137_28, s137_31, s137_34, Int.reduceToNat, Int.reducePow, Nat.reducePow, Int.reduceLE, Int.reduceLT, Int.reduceNeg, Int.reduceEq, Int.reduceNe, Int.reduceAdd, Int.reduceSub, Int.reduceMul, and_self, sx_push, tf, List.length_cons, List.length_nil, Option.some.injEq, exists_eq_left', Nat.reduceAdd, Nat.reduceLeDiff, true_and, and_true, true_or, or_true, Int.zero_add, Nat.zero_le, eq_self, ne_eq, not_true_eq_false, not_false_eq_true, false_implies, true_implies, implies_true, b2i_0, b2i_1, b2i_01, up_sc, sc_at, sc_sc, ite_true, ite_false, if_true, if_false, Nat.reduceEqDiff, reduceIte, z]
      repeat' (first | intro _ | refine And.intro ?_ ?_)
      all_goals first | omega | contradiction | exact ih _ _ (by omega) (by omega) (by omega) (by omega) hK
theorem x137 (hr : rL σ 7 f) (hw : wfc f) (h5 : 0 ≤ σ 141 5 ∧ σ 141 5 ≤ 12) {kk : Int} (hk : 0 ≤ kk) (hi : inI kk) (hK : ∀ σ', fr σ σ' 145 145 → K (some (vI (kth (ftC σ f) kk 3 0 0))) (T0 n) σ') : Rn 137 0 [some (vR 141), some (vI kk), none, none] [] (T0 n) σ K := by
  simp only [s137_0, s137_1, sx_push, tf, List.length_cons, List.length_nil, Option.some.injEq, exists_eq_left', Nat.reduceAdd, Nat.reduceLeDiff, true_and, and_true, true_or, or_true, Int.zero_add, Nat.zero_le, eq_self, ne_eq, not_true_eq_false, not_false_eq_true, false_implies, true_implies, implies_true, b2i_0, b2i_1, b2i_01, up_sc, sc_at, sc_sc, ite_true, ite_false, if_true, if_false, Nat.reduceEqDiff, reduceIte]
  refine x135 hr hw h5 (fun σ' a1 a2 => ?_)
  simp only [s137_4, s137_5, s137_6, s137_7, sx_push, tf, List.length_cons, List.length_nil, Option.some.injEq, exists_eq_left', Nat.reduceAdd, Nat.reduceLeDiff, true_and, and_true, true_or, or_true, Int.zero_add, Nat.zero_le, eq_self, ne_eq, not_true_eq_false, not_false_eq_true, false_implies, true_implies, implies_true, b2i_0, b2i_1, b2i_01, up_sc, sc_at, sc_sc, ite_true, ite_false, if_true, if_false, Nat.reduceEqDiff, reduceIte]
  have := x137l hk hi a2 3 0 0 (by omega) (by omega) (by omega) (by omega) (hK σ' a1)
  rw [Int.sub_zero] at this
  exact this
theorem Rel_fit {σ σ' : sxS} (h : Rel c σ) (h1 : fr σ σ' 145 145) : Rel c σ' := Rel_cg h (fun k hk => h1 k (by unfold scr at hk; omega)) (by rw [h1 149 (by omega)]; exact f149_rfl) (by rw [h1 4 (by omega)]; exact ⟨rfl, rfl⟩) (h1 126 (by omega))
theorem ft_eq {σ : sxS} (h : Rel c σ) : ftC σ (σ 150) = ftR σ := by
  have hV := h.2.2.2.2.2.2.2.2.2.1
  funext m
  unfold ftC ftR
  rw [hV.1]
  exact fitJ_cg _ 0 (fun j a b => hV.2.2 j a (by have := hV.2.1; omega))
theorem cl33 {k : Int} (hi : inI k) : call2 n c 133 262 [some (vR 1), some (vI k)] [some (vR 149), some (vI k), none, none] := fun σ h => by
  have h' := h
  obtain ⟨hP, hO, hM, hH, hT, hR, hS, hF, hQ, hV, hI, hG, hW⟩ := h'
  have h5 : 0 ≤ σ 141 5 ∧ σ 141 5 ≤ 12 := by rw [hV.1]; exact hV.2.1
  have m5 := hO.2.2.2
  have me : σ 7 4 = -1 ↔ σ 149 6 = 0 := by
    rcases hM with ⟨m1, m2⟩ | ⟨m1, m2, m3⟩
    · constructor <;> intro z <;> omega
    · constructor <;> intro z <;> omega
  have fin : ∀ σ', fr σ σ' 145 145 → Rn 262 0 [some (vR 149), some (vI k), none, none] [] (T0 n) σ' (fun r2 T2 σ2 => T2 = T0 n ∧ r2 = some (vI (if σ 149 6 ≠ 0 ∧ -1 ≤ k then kth (ftR σ) k 3 0 0 else -1)) ∧ Rel (c + 1) σ2 ∧ σ2 0 = σ 0) := fun σ' a1 => by
    have eq : ∀ j, (j < 145 ∨ 145 < j) → σ' j = σ j := fun j hj => a1 j hj
    have ef : ftR σ' = ftR σ := by funext m; unfold ftR; rw [eq 150 (by omega), eq 166 (by omega), eq 167 (by omega), eq 168 (by omega), eq 149 (by omega)]
    rw [x262 (by rw [eq 150 (by omega)]; exact hO.1.2.1) (by rw [eq 149 (by omega)]; exact hV.2.1), ef, eq 149 (by omega)]
    exact ⟨rfl, rfl, Rel_w (Rel_fit h a1) (by omega), eq 0 (by omega)⟩
  have fe := ft_eq h
  by_cases e : σ 149 6 ≠ 0 ∧ -1 ≤ k
  · rw [if_pos e] at fin
    have m0 : σ 7 4 ≠ -1 := fun z => e.1 (me.mp z)
    by_cases e2 : k = -1
    · subst e2
      rw [kth_n _ _ _ (by omega)] at fin
      simp only [s133_0, s133_1, s133_4, s133_7, s133_8, s133_11, s133_12, s133_13, s133_16, s133_17, s133_18, s133_19, s133_20, s133_23, s133_24, s133_27, sx_push, tf, List.length_cons, List.length_nil, Option.some.injEq, exists_eq_left', Nat.reduceAdd, Nat.reduceLeDiff, true_and, and_true, true_or, or_true, Int.zero_add, Nat.zero_le, eq_self, ne_eq, not_true_eq_false, not_false_eq_true, false_implies, true_implies, implies_true, b2i_0, b2i_1, b2i_01, up_sc, sc_at, sc_sc, ite_true, ite_false, if_true, if_false, Nat.reduceEqDiff, reduceIte]
      repeat' (first | intro _ | refine And.intro ?_ ?_)
      all_goals first | omega | contradiction | skip
      refine x134 hP.1.1 hO.1.2.1 h5 (fun σ' a1 => ?_)
      rw [fe]
      simp only [s133_30, s133_41, sx_push, tf, List.length_cons, List.length_nil, Option.some.injEq, exists_eq_left', Nat.reduceAdd, Nat.reduceLeDiff, true_and, and_true, true_or, or_true, Int.zero_add, Nat.zero_le, eq_self, ne_eq, not_true_eq_false, not_false_eq_true, false_implies, true_implies, implies_true, b2i_0, b2i_1, b2i_01, up_sc, sc_at, sc_sc, ite_true, ite_false, if_true, if_false, Nat.reduceEqDiff, reduceIte]
      exact ⟨_, rfl, fin σ' a1⟩
    · simp only [s133_0, s133_1, s133_4, s133_7, s133_8, s133_11, s133_12, s133_13, s133_16, s133_17, s133_18, s133_19, s133_20, s133_33, s133_34, s133_37, s133_38, sx_push, tf, List.length_cons, List.length_nil, Option.some.injEq, exists_eq_left', Nat.reduceAdd, Nat.reduceLeDiff, true_and, and_true, true_or, or_true, Int.zero_add, Nat.zero_le, eq_self, ne_eq, not_true_eq_false, not_false_eq_true, false_implies, true_implies, implies_true, b2i_0, b2i_1, b2i_01, up_sc, sc_at, sc_sc, ite_true, ite_false, if_true, if_false, Nat.reduceEqDiff, reduceIte]
      repeat' (first | intro _ | refine And.intro ?_ ?_)
      all_goals first | omega | contradiction | skip
      refine x137 hP.1.1 hO.1.2.1 h5 (by omega) hi (fun σ' a1 => ?_)
      rw [fe]
      simp only [s133_41, sx_push, tf, List.length_cons, List.length_nil, Option.some.injEq, exists_eq_left', Nat.reduceAdd, Nat.reduceLeDiff, true_and, and_true, true_or, or_true, Int.zero_add, Nat.zero_le, eq_self, ne_eq, not_true_eq_false, not_false_eq_true, false_implies, true_implies, implies_true, b2i_0, b2i_1, b2i_01, up_sc, sc_at, sc_sc, ite_true, ite_false, if_true, if_false, Nat.reduceEqDiff, reduceIte]
      exact ⟨_, rfl, fin σ' a1⟩
  · rw [if_neg e] at fin
    have x133f : ∀ K : Option sxV → sxT → sxS → Prop, K (some (vI (-1))) (T0 n) σ → Rn 133 0 [some (vR 1), some (vI k)] [] (T0 n) σ K := fun K hK => by
      simp only [s133_0, s133_1, s133_4, s133_7, s133_8, s133_11, s133_12, s133_13, s133_16, s133_17, sx_push, tf, List.length_cons, List.length_nil, Option.some.injEq, exists_eq_left', Nat.reduceAdd, Nat.reduceLeDiff, true_and, and_true, true_or, or_true, Int.zero_add, Nat.zero_le, eq_self, ne_eq, not_true_eq_false, not_false_eq_true, false_implies, true_implies, implies_true, b2i_0, b2i_1, b2i_01, up_sc, sc_at, sc_sc, ite_true, ite_false, if_true, if_false, Nat.reduceEqDiff, reduceIte]
      repeat' (first | intro _ | refine And.intro ?_ ?_)
      all_goals first | exact hK | omega
    exact x133f _ ⟨rfl, _, rfl, fin σ fr_rfl⟩
theorem x140i (hf : ∀ m, 0 ≤ m → m < 3 → σ 145 m = b2i (ft m = true)) {m b x y z x' y' z' : Int} (hx : in8 x) (hy : in8 y) (hz : in8 z) (hx' : in8 x') (hy' : in8 y') (hz' : in8 z') (hm : ft m = true) : ∀ (k : Nat) (o a : Int), o + k = 3 → 0 ≤ o → 0 ≤ a → a ≤ o → Rn 140 73 [some (vR 141), some (vI (pk x y z)), some (vI (pk x' y' z')), some (vI b), some (vI m), some (vI (farF m x y z x' y' z')), some (vI (cnt (fun o => ft m && ft o && decide (farF m x y z x' y' z' = farF o x y z x' y' z')) k o a)), some (vI 3)] [] (T0 n) σ K → Rn 140 36 [some (vR 141), some (vI (pk x y z)), some (vI (pk x' y' z')), some (vI b), some (vI m), some (vI (farF m x y z x' y' z')), some (vI a), some (vI o)] [] (T0 n) σ K := by
  intro k
  induction k with
  | zero =>
    intro o a ho o0 a0 a1 hK
    obtain rfl : o = 3 := by omega
    rw [s140_36]
    simp only [s140_38, s140_39, sx_push, tf, List.length_cons, List.length_nil, Option.some.injEq, exists_eq_left', Nat.reduceAdd, Nat.reduceLeDiff, true_and, and_true, true_or, or_true, Int.zero_add, Nat.zero_le, eq_self, ne_eq, not_true_eq_false, not_false_eq_true, false_implies, true_implies, implies_true, b2i_0, b2i_1, b2i_01, up_sc, sc_at, sc_sc, ite_true, ite_false, if_true, if_false, Nat.reduceEqDiff, reduceIte]
    repeat' (first | intro _ | refine And.intro ?_ ?_)
    all_goals first | omega | exact hK
  | succ k ih =>
    intro o a ho o0 a0 a1 hK
    rw [s140_36]
    rw [cnt_s] at hK
    have zz := hf o o0 (by omega)
    by_cases e2 : ft o = true
    · rw [b2i_t e2] at zz
      by_cases e3 : farF m x y z x' y' z' = farF o x y z x' y' z'
      · rw [if_pos (by simp [hm, e2, e3])] at hK
        simp only [s140_38, s140_39, s140_42, s140_43, s140_46, s140_48, s140_49, s140_52, s140_54, s140_55, s140_56, s140_59, s140_61, s140_64, s140_67, s140_70, Int.reduceToNat, Int.reducePow, Nat.reducePow, Int.reduceLE, Int.reduceLT, Int.reduceNeg, Int.reduceEq, Int.reduceNe, Int.reduceAdd, Int.reduceSub, Int.reduceMul, and_self, sx_push, tf, List.length_cons, List.length_nil, Option.some.injEq, exists_eq_left', Nat.reduceAdd, Nat.reduceLeDiff, true_and, and_true, true_or, or_true, Int.zero_add, Nat.zero_le, eq_self, ne_eq, not_true_eq_false, not_false_eq_true, false_implies, true_implies, implies_true, b2i_0, b2i_1, b2i_01, up_sc, sc_at, sc_sc, ite_true, ite_false, if_true, if_false, Nat.reduceEqDiff, reduceIte, zz, x40 hx hy hz hx' hy' hz']
        repeat' (first | intro _ | refine And.intro ?_ ?_)
        all_goals first | omega | contradiction | exact ih _ _ (by omega) (by omega) (by omega) (by omega) hK
      · rw [if_neg (by simp [hm, e2, e3])] at hK
        simp only [s140_38, s140_39, s140_42, s140_43, s140_46, s140_48, s140_49, s140_52, s140_54, s140_55, s140_56, s140_59, s140_61, s140_64, s140_67, s140_70, Int.reduceToNat, Int.reducePow, Nat.reducePow, Int.reduceLE, Int.reduceLT, Int.reduceNeg, Int.reduceEq, Int.reduceNe, Int.reduceAdd, Int.reduceSub, Int.reduceMul, and_self, sx_push, tf, List.length_cons, List.length_nil, Option.some.injEq, exists_eq_left', Nat.reduceAdd, Nat.reduceLeDiff, true_and, and_true, true_or, or_true, Int.zero_add, Nat.zero_le, eq_self, ne_eq, not_true_eq_false, not_false_eq_true, false_implies, true_implies, implies_true, b2i_0, b2i_1, b2i_01, up_sc, sc_at, sc_sc, ite_true, ite_false, if_true, if_false, Nat.reduceEqDiff, reduceIte, zz, x40 hx hy hz hx' hy' hz']
        repeat' (first | intro _ | refine And.intro ?_ ?_)
        all_goals first | omega | contradiction | exact ih _ _ (by omega) (by omega) (by omega) (by omega) hK
    · rw [b2i_f e2] at zz
      rw [if_neg (by simp [e2])] at hK
      simp only [s140_38, s140_39, s140_42, s140_43, s140_46, s140_48, s140_49, s140_67, s140_70, Int.reduceToNat, Int.reducePow, Nat.reducePow, Int.reduceLE, Int.reduceLT, Int.reduceNeg, Int.reduceEq, Int.reduceNe, Int.reduceAdd, Int.reduceSub, Int.reduceMul, and_self, sx_push, tf, List.length_cons, List.length_nil, Option.some.injEq, exists_eq_left', Nat.reduceAdd, Nat.reduceLeDiff, true_and, and_true, true_or, or_true, Int.zero_add, Nat.zero_le, eq_self, ne_eq, not_true_eq_false, not_false_eq_true, false_implies, true_implies, implies_true, b2i_0, b2i_1, b2i_01, up_sc, sc_at, sc_sc, ite_true, ite_false, if_true, if_false, Nat.reduceEqDiff, reduceIte, zz]
      repeat' (first | intro _ | refine And.intro ?_ ?_)
      all_goals first | omega | contradiction | exact ih _ _ (by omega) (by omega) (by omega) (by omega) hK
theorem x140l (hf : ∀ m, 0 ≤ m → m < 3 → σ 145 m = b2i (ft m = true)) {x y z x' y' z' : Int} (hx : in8 x) (hy : in8 y) (hz : in8 z) (hx' : in8 x') (hy' : in8 y') (hz' : in8 z') : ∀ (k : Nat) (m b : Int) (u v w : Option sxV), m + k = 3 → 0 ≤ m → 0 ≤ b → K (some (vI (mxA (fun m => cnt (fun o => ft m && ft o && decide (farF m x y z x' y' z' = farF o x y z x' y' z')) 3 0 0) k m b))) (T0 n) σ → Rn 140 5 [some (vR 141), some (vI (pk x y z)), some (vI (pk x' y' z')), some (vI b), some (vI m), u, v, w] [] (T0 n) σ K := by
  intro k
  induction k with
  | zero =>
    intro m b u v w hm m0 b0 hK
    rw [s140_5]
    simp only [s140_7, s140_8, s140_86, s140_87, sx_push, tf, List.length_cons, List.length_nil, Option.some.injEq, exists_eq_left', Nat.reduceAdd, Nat.reduceLeDiff, true_and, and_true, true_or, or_true, Int.zero_add, Nat.zero_le, eq_self, ne_eq, not_true_eq_false, not_false_eq_true, false_implies, true_implies, implies_true, b2i_0, b2i_1, b2i_01, up_sc, sc_at, sc_sc, ite_true, ite_false, if_true, if_false, Nat.reduceEqDiff, reduceIte]
    repeat' (first | intro _ | refine And.intro ?_ ?_)
    all_goals first | omega | exact hK
  | succ k ih =>
    intro m b u v w hm m0 b0 hK
    rw [s140_5]
    unfold mxA at hK
    have zz := hf m m0 (by omega)
    by_cases e : ft m = true
    · rw [b2i_t e] at zz
      simp only [s140_7, s140_8, s140_11, s140_12, s140_15, s140_17, s140_18, s140_21, s140_23, s140_24, s140_25, s140_28, s140_30, s140_31, s140_33, s140_34, Int.reduceToNat, Int.reducePow, Nat.reducePow, Int.reduceLE, Int.reduceLT, Int.reduceNeg, Int.reduceEq, Int.reduceNe, Int.reduceAdd, Int.reduceSub, Int.reduceMul, and_self, sx_push, tf, List.length_cons, List.length_nil, Option.some.injEq, exists_eq_left', Nat.reduceAdd, Nat.reduceLeDiff, true_and, and_true, true_or, or_true, Int.zero_add, Nat.zero_le, eq_self, ne_eq, not_true_eq_false, not_false_eq_true, false_implies, true_implies, implies_true, b2i_0, b2i_1, b2i_01, up_sc, sc_at, sc_sc, ite_true, ite_false, if_true, if_false, Nat.reduceEqDiff, reduceIte, zz, x40 hx hy hz hx' hy' hz']
      repeat' (first | intro _ | refine And.intro ?_ ?_)
      all_goals first | omega | contradiction | skip
      refine x140i hf hx hy hz hx' hy' hz' e 3 0 0 (by omega) (by omega) (by omega) (by omega) ?_
      simp only [s140_73, s140_74, s140_76, s140_79, s140_80, s140_83, sx_push, tf, List.length_cons, List.length_nil, Option.some.injEq, exists_eq_left', Nat.reduceAdd, Nat.reduceLeDiff, true_and, and_true, true_or, or_true, Int.zero_add, Nat.zero_le, eq_self, ne_eq, not_true_eq_false, not_false_eq_true, false_implies, true_implies, implies_true, b2i_0, b2i_1, b2i_01, up_sc, sc_at, sc_sc, ite_true, ite_false, if_true, if_false, Nat.reduceEqDiff, reduceIte]
      exact ⟨by omega, ih _ _ _ _ _ (by omega) (by omega) (by omega) hK⟩
    · rw [b2i_f e] at zz
      have e0 : cnt (fun o => ft m && ft o && decide (farF m x y z x' y' z' = farF o x y z x' y' z')) 3 0 0 = 0 := cnt_zero 3 0 0 (fun q _ _ => by simp [e])
      rw [e0, show max b 0 = b by omega] at hK
      simp only [s140_7, s140_8, s140_11, s140_12, s140_15, s140_17, s140_18, s140_80, s140_83, Int.reduceToNat, Int.reducePow, Nat.reducePow, Int.reduceLE, Int.reduceLT, Int.reduceNeg, Int.reduceEq, Int.reduceNe, Int.reduceAdd, Int.reduceSub, Int.reduceMul, and_self, sx_push, tf, List.length_cons, List.length_nil, Option.some.injEq, exists_eq_left', Nat.reduceAdd, Nat.reduceLeDiff, true_and, and_true, true_or, or_true, Int.zero_add, Nat.zero_le, eq_self, ne_eq, not_true_eq_false, not_false_eq_true, false_implies, true_implies, implies_true, b2i_0, b2i_1, b2i_01, up_sc, sc_at, sc_sc, ite_true, ite_false, if_true, if_false, Nat.reduceEqDiff, reduceIte, zz]
      repeat' (first | intro _ | refine And.intro ?_ ?_)
      all_goals first | omega | contradiction | exact ih _ _ _ _ _ (by omega) (by omega) b0 hK
theorem x140 (hr : rL σ 7 f) (hw : wfc f) (hf : ∀ m, 0 ≤ m → m < 3 → σ 145 m = b2i (ft m = true)) {p q : Int} (p0 : 0 ≤ p) (p1 : p < 40) (hp : f p = 1) (q0 : 0 ≤ q) (q1 : q < 40) (hq : f q = 1) : Rn 140 0 [some (vR 141), some (vI (σ 8 p)), some (vI (σ 8 q)), none, none, none, none, none] [] (T0 n) σ K ↔ K (some (vI (lbD f ft p q))) (T0 n) σ := by
  refine Rn_iff fun K hK => ?_
  have w1 := hw p p0 p1
  have w2 := hw q q0 q1
  have e1 : σ 8 p = pk (f (40 + p)) (f (80 + p)) (f (120 + p)) := by
    rcases rL7 hr p p0 p1 with z | z
    · exact z.2.2.2.2.1
    · omega
  have e2 : σ 8 q = pk (f (40 + q)) (f (80 + q)) (f (120 + q)) := by
    rcases rL7 hr q q0 q1 with z | z
    · exact z.2.2.2.2.1
    · omega
  rw [e1, e2]
  simp only [s140_0, s140_1, s140_2, s140_3, sx_push, tf, List.length_cons, List.length_nil, Option.some.injEq, exists_eq_left', Nat.reduceAdd, Nat.reduceLeDiff, true_and, and_true, true_or, or_true, Int.zero_add, Nat.zero_le, eq_self, ne_eq, not_true_eq_false, not_false_eq_true, false_implies, true_implies, implies_true, b2i_0, b2i_1, b2i_01, up_sc, sc_at, sc_sc, ite_true, ite_false, if_true, if_false, Nat.reduceEqDiff, reduceIte]
  exact x140l hf w1.1 w1.2.1 w1.2.2 w2.1 w2.2.1 w2.2.2 3 0 0 _ _ _ (by omega) (by omega) (by omega) hK
theorem x139i (hr : rL σ 7 f) (h01 : th01 f) (hw : wfc f) (hf : ∀ m, 0 ≤ m → m < 3 → σ 145 m = b2i (ft m = true)) {a : Int} (a0 : 0 ≤ a) (a1 : a < 40) : ∀ (k : Nat) (b o t : Int) (u : Option sxV), b + k = 40 → a < b → oT f a b o t → (∀ u, Rn 139 98 [some (vR 141), some (vI (if (prI f (lbD f ft) 0 a k b o t).1 = -1 then -1 else pkP (prI f (lbD f ft) 0 a k b o t).1 (prI f (lbD f ft) 0 a k b o t).2 (lbD f ft (prI f (lbD f ft) 0 a k b o t).1 (prI f (lbD f ft) 0 a k b o t).2))), some (vI a), some (vI 40), u] [] (T0 n) σ K) → Rn 139 18 [some (vR 141), some (vI (if o = -1 then -1 else pkP o t (lbD f ft o t))), some (vI a), some (vI b), u] [] (T0 n) σ K := by
  intro k
  induction k with
  | zero =>
    intro b o t u hb ab h hK
    obtain rfl : b = 40 := by omega
    rw [s139_18]
    have := hK u
    simp only [s139_19, s139_21, sx_push, tf, List.length_cons, List.length_nil, Option.some.injEq, exists_eq_left', Nat.reduceAdd, Nat.reduceLeDiff, true_and, and_true, true_or, or_true, Int.zero_add, Nat.zero_le, eq_self, ne_eq, not_true_eq_false, not_false_eq_true, false_implies, true_implies, implies_true, b2i_0, b2i_1, b2i_01, up_sc, sc_at, sc_sc, ite_true, ite_false, if_true, if_false, Nat.reduceEqDiff, reduceIte]
    repeat' (first | intro _ | refine And.intro ?_ ?_)
    all_goals first | omega | exact this
  | succ k ih =>
    intro b o t u hb ab h hK
    have b1 : b < 40 := by omega
    rw [s139_18]
    have h' : oT f a (b + 1) o t := by
      rcases h with z | ⟨z1, z2, z3⟩
      · exact Or.inl z
      · exact Or.inr ⟨z1, z2, by omega⟩
    rcases h01 a a0 a1 with e | e
    · rw [prI_no (by omega)] at hK
      simp only [s139_19, s139_21, s139_24, s139_25, s139_28, s139_29, s139_32, s139_92, s139_95, sx_push, tf, List.length_cons, List.length_nil, Option.some.injEq, exists_eq_left', Nat.reduceAdd, Nat.reduceLeDiff, true_and, and_true, true_or, or_true, Int.zero_add, Nat.zero_le, eq_self, ne_eq, not_true_eq_false, not_false_eq_true, false_implies, true_implies, implies_true, b2i_0, b2i_1, b2i_01, up_sc, sc_at, sc_sc, ite_true, ite_false, if_true, if_false, Nat.reduceEqDiff, reduceIte, x49 isP7 hr]
      repeat' (first | intro _ | refine And.intro ?_ ?_)
      all_goals first | omega | exact ih (b + 1) o t _ (by omega) (by omega) h' hK
    · rcases h01 b (by omega) b1 with e2 | e2
      · rw [prI_no (by omega)] at hK
        simp only [s139_19, s139_21, s139_24, s139_25, s139_28, s139_29, s139_32, s139_35, s139_36, s139_39, s139_40, s139_43, s139_92, s139_95, sx_push, tf, List.length_cons, List.length_nil, Option.some.injEq, exists_eq_left', Nat.reduceAdd, Nat.reduceLeDiff, true_and, and_true, true_or, or_true, Int.zero_add, Nat.zero_le, eq_self, ne_eq, not_true_eq_false, not_false_eq_true, false_implies, true_implies, implies_true, b2i_0, b2i_1, b2i_01, up_sc, sc_at, sc_sc, ite_true, ite_false, if_true, if_false, Nat.reduceEqDiff, reduceIte, x49 isP7 hr]
        repeat' (first | intro _ | refine And.intro ?_ ?_)
        all_goals first | omega | exact ih (b + 1) o t _ (by omega) (by omega) h' hK
      · have fo : 0 ≤ lbD f ft a b ∧ lbD f ft a b ≤ 3 := lb_in _ _
        have x108' := fun K => x108 (n := n) (σ := σ) (K := K) (p := a) (q := b) (d := lbD f ft a b) a0 (by omega) (by omega) (by omega) fo.1 (by omega)
        rw [show min a b = a by omega, show max a b = b by omega] at x108'
        simp only [s139_19, s139_21, s139_24, s139_25, s139_28, s139_29, s139_32, s139_35, s139_36, s139_39, s139_40, s139_43, s139_46, s139_47, s139_48, s139_49, s139_50, s139_53, s139_56, s139_57, s139_58, s139_59, s139_62, s139_65, s139_66, s139_67, s139_70, s139_73, s139_75, s139_76, s139_77, s139_80, s139_82, s139_85, s139_86, s139_88, s139_91, s139_92, s139_95, sx_push, tf, List.length_cons, List.length_nil, Option.some.injEq, exists_eq_left', Nat.reduceAdd, Nat.reduceLeDiff, true_and, and_true, true_or, or_true, Int.zero_add, Nat.zero_le, eq_self, ne_eq, not_true_eq_false, not_false_eq_true, false_implies, true_implies, implies_true, b2i_0, b2i_1, b2i_01, up_sc, sc_at, sc_sc, ite_true, ite_false, if_true, if_false, Nat.reduceEqDiff, reduceIte, x49 isP7 hr, x140 hr hw hf a0 a1 e (show 0 ≤ b by omega) b1 e2, x108']
        have hnew : oT f a (b + 1) a b := Or.inr ⟨⟨a0, ab, b1⟩, ⟨e, e2⟩, Or.inr ⟨rfl, by omega⟩⟩
        have n1 : a ≠ -1 := by omega
        rcases h with ⟨z1, z2⟩ | ⟨z1, z2, z3⟩
        · rw [prI_ye ⟨⟨e, e2⟩, Or.inl z1⟩] at hK
          have go := fun u => ih (b + 1) a b u (by omega) (by omega) hnew hK
          rw [if_neg n1] at go
          rw [if_pos z1]
          repeat' (first | intro _ | refine And.intro ?_ ?_)
          all_goals first | omega | contradiction | exact go _
        · have fo2 : 0 ≤ lbD f ft o t ∧ lbD f ft o t ≤ 3 := lb_in _ _
          rw [if_neg (show ¬ o = -1 by omega)]
          have pn : pkP o t (lbD f ft o t) ≠ -1 := by unfold pkP; omega
          by_cases e3 : lbD f ft a b < lbD f ft o t
          · rw [prI_ye ⟨⟨e, e2⟩, Or.inr (Or.inl ⟨rfl, e3⟩)⟩] at hK
            have go := fun u => ih (b + 1) a b u (by omega) (by omega) hnew hK
            rw [if_neg n1] at go
            have em : min (pkP o t (lbD f ft o t)) (pkP a b (lbD f ft a b)) = pkP a b (lbD f ft a b) := by unfold pkP; omega
            rw [em]
            repeat' (first | intro _ | refine And.intro ?_ ?_)
            all_goals first | omega | contradiction | exact go _
          · rw [prI_no (by omega)] at hK
            have go := fun u => ih (b + 1) o t u (by omega) (by omega) h' hK
            rw [if_neg (show ¬ o = -1 by omega)] at go
            have em : min (pkP o t (lbD f ft o t)) (pkP a b (lbD f ft a b)) = pkP o t (lbD f ft o t) := by unfold pkP; omega
            rw [em]
            repeat' (first | intro _ | refine And.intro ?_ ?_)
            all_goals first | omega | contradiction | exact go _
theorem x139l (hr : rL σ 7 f) (h01 : th01 f) (hw : wfc f) (hf : ∀ m, 0 ≤ m → m < 3 → σ 145 m = b2i (ft m = true)) : ∀ (k : Nat) (a o t : Int) (u v : Option sxV), a + k = 40 → 0 ≤ a → oT f a (a + 1) o t → K (some (vI (if (prO f (lbD f ft) 0 k a o t).1 = -1 then -1 else pkP (prO f (lbD f ft) 0 k a o t).1 (prO f (lbD f ft) 0 k a o t).2 (lbD f ft (prO f (lbD f ft) 0 k a o t).1 (prO f (lbD f ft) 0 k a o t).2)))) (T0 n) σ → Rn 139 8 [some (vR 141), some (vI (if o = -1 then -1 else pkP o t (lbD f ft o t))), some (vI a), u, v] [] (T0 n) σ K := by
  intro k
  induction k with
  | zero =>
    intro a o t u v ha a0 h hK
    rw [s139_8]
    unfold prO at hK
    simp only [s139_9, s139_11, s139_104, s139_105, sx_push, tf, List.length_cons, List.length_nil, Option.some.injEq, exists_eq_left', Nat.reduceAdd, Nat.reduceLeDiff, true_and, and_true, true_or, or_true, Int.zero_add, Nat.zero_le, eq_self, ne_eq, not_true_eq_false, not_false_eq_true, false_implies, true_implies, implies_true, b2i_0, b2i_1, b2i_01, up_sc, sc_at, sc_sc, ite_true, ite_false, if_true, if_false, Nat.reduceEqDiff, reduceIte]
    repeat' (first | intro _ | refine And.intro ?_ ?_)
    all_goals first | omega | exact hK
  | succ k ih =>
    intro a o t u v ha a0 h hK
    rw [s139_8]
    unfold prO at hK
    have pin := prI_in (d := lbD f ft) (wd := 0) a0 k (a + 1) o t (by omega) (by omega) h
    have main := fun (K' : ∀ u, Rn 139 98 [some (vR 141), some (vI (if (prI f (lbD f ft) 0 a k (a + 1) o t).1 = -1 then -1 else pkP (prI f (lbD f ft) 0 a k (a + 1) o t).1 (prI f (lbD f ft) 0 a k (a + 1) o t).2 (lbD f ft (prI f (lbD f ft) 0 a k (a + 1) o t).1 (prI f (lbD f ft) 0 a k (a + 1) o t).2))), some (vI a), some (vI 40), u] [] (T0 n) σ K) => x139i hr h01 hw hf a0 (by omega) k (a + 1) o t v (by omega) (by omega) h K'
    generalize prI f (lbD f ft) 0 a k (a + 1) o t = P at *
    simp only [s139_9, s139_11, s139_14, s139_15, s139_16, s139_17, sx_push, tf, List.length_cons, List.length_nil, Option.some.injEq, exists_eq_left', Nat.reduceAdd, Nat.reduceLeDiff, true_and, and_true, true_or, or_true, Int.zero_add, Nat.zero_le, eq_self, ne_eq, not_true_eq_false, not_false_eq_true, false_implies, true_implies, implies_true, b2i_0, b2i_1, b2i_01, up_sc, sc_at, sc_sc, ite_true, ite_false, if_true, if_false, Nat.reduceEqDiff, reduceIte]
    repeat' (first | intro _ | refine And.intro ?_ ?_)
    all_goals first | omega | skip
    refine main (fun u => ?_)
    simp only [s139_98, s139_101, sx_push, tf, List.length_cons, List.length_nil, Option.some.injEq, exists_eq_left', Nat.reduceAdd, Nat.reduceLeDiff, true_and, and_true, true_or, or_true, Int.zero_add, Nat.zero_le, eq_self, ne_eq, not_true_eq_false, not_false_eq_true, false_implies, true_implies, implies_true, b2i_0, b2i_1, b2i_01, up_sc, sc_at, sc_sc, ite_true, ite_false, if_true, if_false, Nat.reduceEqDiff, reduceIte]
    exact ⟨by omega, ih (a + 1) P.1 P.2 _ _ (by omega) (by omega) pin hK⟩
theorem x139 (hr : rL σ 7 f) (hi : invF f) (h5 : 0 ≤ σ 141 5 ∧ σ 141 5 ≤ 12) (h2 : 2 ≤ cntF f 40 0 0) (hK : ∀ σ', fr σ σ' 145 145 → K (some (vI (pkP (pairT f (lbD f (ftC σ f)) 0).1 (pairT f (lbD f (ftC σ f)) 0).2 (lbD f (ftC σ f) (pairT f (lbD f (ftC σ f)) 0).1 (pairT f (lbD f (ftC σ f)) 0).2)))) (T0 n) σ') : Rn 139 0 [some (vR 141), none, none, none, none] [] (T0 n) σ K := by
  have pi := pairT_in hi.1 (lbD f (ftC σ f)) 0 h2
  simp only [s139_0, s139_1, sx_push, tf, List.length_cons, List.length_nil, Option.some.injEq, exists_eq_left', Nat.reduceAdd, Nat.reduceLeDiff, true_and, and_true, true_or, or_true, Int.zero_add, Nat.zero_le, eq_self, ne_eq, not_true_eq_false, not_false_eq_true, false_implies, true_implies, implies_true, b2i_0, b2i_1, b2i_01, up_sc, sc_at, sc_sc, ite_true, ite_false, if_true, if_false, Nat.reduceEqDiff, reduceIte]
  refine x135 hr hi.2.1 h5 (fun σ' a1 a2 => ?_)
  have hK := hK σ' a1
  generalize ftC σ f = ft at *
  have hK2 : K (some (vI (if (prO f (lbD f ft) 0 40 0 (-1) (-1)).1 = -1 then -1 else pkP (prO f (lbD f ft) 0 40 0 (-1) (-1)).1 (prO f (lbD f ft) 0 40 0 (-1) (-1)).2 (lbD f ft (prO f (lbD f ft) 0 40 0 (-1) (-1)).1 (prO f (lbD f ft) 0 40 0 (-1) (-1)).2)))) (T0 n) σ' := by
    change K (some (vI (if (pairT f (lbD f ft) 0).1 = -1 then -1 else pkP (pairT f (lbD f ft) 0).1 (pairT f (lbD f ft) 0).2 (lbD f ft (pairT f (lbD f ft) 0).1 (pairT f (lbD f ft) 0).2)))) (T0 n) σ'
    rw [if_neg (by omega)]; exact hK
  have := x139l (n := n) (rL_fr a1 (by omega) hr) hi.1 hi.2.1 a2 40 0 (-1) (-1) none none (by omega) (by omega) (Or.inl ⟨rfl, rfl⟩) hK2
  rw [if_pos rfl] at this
  simp only [s139_4, s139_5, s139_6, s139_7, sx_push, tf, List.length_cons, List.length_nil, Option.some.injEq, exists_eq_left', Nat.reduceAdd, Nat.reduceLeDiff, true_and, and_true, true_or, or_true, Int.zero_add, Nat.zero_le, eq_self, ne_eq, not_true_eq_false, not_false_eq_true, false_implies, true_implies, implies_true, b2i_0, b2i_1, b2i_01, up_sc, sc_at, sc_sc, ite_true, ite_false, if_true, if_false, Nat.reduceEqDiff, reduceIte]
  exact this
theorem cl34 {w : Int} : call2 n c 138 265 [some (vR 1), some (vI w)] [some (vR 149), some (vI w), none, none, none, none, none, none] := fun σ h => by
  have h' := h
  obtain ⟨hP, hO, hM, hH, hT, hR, hS, hF, hQ, hV, hI, hG, hW⟩ := h'
  have h5 : 0 ≤ σ 141 5 ∧ σ 141 5 ≤ 12 := by rw [hV.1]; exact hV.2.1
  have m5 := hO.2.2.2
  have me : σ 7 4 = -1 ↔ σ 149 6 = 0 := by
    rcases hM with ⟨m1, m2⟩ | ⟨m1, m2, m3⟩
    · constructor <;> intro z <;> omega
    · constructor <;> intro z <;> omega
  have fe := ft_eq h
  have fin : ∀ σ', fr σ σ' 145 145 → Rn 265 0 [some (vR 149), some (vI w), none, none, none, none, none, none] [] (T0 n) σ' (fun r2 T2 σ2 => T2 = T0 n ∧ r2 = some (vI (tellS (σ 150) (ftR σ) (σ 149 6) w)) ∧ Rel (c + 1) σ2 ∧ σ2 0 = σ 0) := fun σ' a1 => by
    have eq : ∀ j, (j < 145 ∨ 145 < j) → σ' j = σ j := fun j hj => a1 j hj
    have ef : ftR σ' = ftR σ := by funext m; unfold ftR; rw [eq 150 (by omega), eq 166 (by omega), eq 167 (by omega), eq 168 (by omega), eq 149 (by omega)]
    rw [x265 (by rw [eq 150 (by omega)]; exact hO.1) (by rw [eq 149 (by omega)]; exact hV.2.1), ef, eq 149 (by omega), eq 150 (by omega)]
    exact ⟨rfl, rfl, Rel_w (Rel_fit h a1) (by omega), eq 0 (by omega)⟩
  unfold tellS at fin
  by_cases e : σ 149 6 ≠ 0 ∧ 2 ≤ cntF (σ 150) 40 0 0
  · have m0 : σ 7 4 ≠ -1 := fun z => e.1 (me.mp z)
    simp only [s138_0, s138_1, s138_4, s138_7, s138_8, s138_11, s138_12, s138_15, s138_18, s138_19, s138_22, s138_23, s138_26, sx_push, tf, List.length_cons, List.length_nil, Option.some.injEq, exists_eq_left', Nat.reduceAdd, Nat.reduceLeDiff, true_and, and_true, true_or, or_true, Int.zero_add, Nat.zero_le, eq_self, ne_eq, not_true_eq_false, not_false_eq_true, false_implies, true_implies, implies_true, b2i_0, b2i_1, b2i_01, up_sc, sc_at, sc_sc, ite_true, ite_false, if_true, if_false, Nat.reduceEqDiff, reduceIte, hP.1.2.2.2]
    repeat' (first | intro _ | refine And.intro ?_ ?_)
    all_goals first | omega | contradiction | skip
    refine x134 hP.1.1 hO.1.2.1 h5 (fun σ1 a1 => ?_)
    have eq : ∀ j, (j < 145 ∨ 145 < j) → σ1 j = σ j := fun j hj => a1 j hj
    have fe1 : ftC σ1 (σ 150) = ftR σ := by rw [← fe]; funext m; unfold ftC; rw [eq 142 (by omega), eq 143 (by omega), eq 144 (by omega), eq 141 (by omega)]
    rw [fe]
    by_cases e2 : (0 ≤ w ∧ w ≤ 2) ∧ cnt (ftR σ) 3 0 0 ≠ 0
    · rw [if_pos ⟨e.1, e.2, e2⟩] at fin
      simp only [s138_29, s138_32, s138_33, s138_34, s138_35, s138_38, s138_39, s138_40, s138_43, s138_44, s138_47, s138_48, s138_51, sx_push, tf, List.length_cons, List.length_nil, Option.some.injEq, exists_eq_left', Nat.reduceAdd, Nat.reduceLeDiff, true_and, and_true, true_or, or_true, Int.zero_add, Nat.zero_le, eq_self, ne_eq, not_true_eq_false, not_false_eq_true, false_implies, true_implies, implies_true, b2i_0, b2i_1, b2i_01, up_sc, sc_at, sc_sc, ite_true, ite_false, if_true, if_false, Nat.reduceEqDiff, reduceIte]
      repeat' (first | intro _ | refine And.intro ?_ ?_)
      all_goals first | omega | contradiction | skip
      refine x139 (f := σ 150) (rL_fr a1 (by omega) hP.1.1) hO.1 (by rw [eq 141 (by omega)]; exact h5) e.2 (fun σ2 b1 => ?_)
      rw [fe1]
      have pi := pairT_in hO.1.1 (lbD (σ 150) (ftR σ)) 0 e.2
      have fin := fin σ2 (fr_tr a1 b1)
      generalize pairT (σ 150) (lbD (σ 150) (ftR σ)) 0 = P at *
      have li : 0 ≤ lbD (σ 150) (ftR σ) P.1 P.2 ∧ lbD (σ 150) (ftR σ) P.1 P.2 ≤ 3 := lb_in _ _
      simp only [s138_54, s138_55, s138_58, sx_push, tf, List.length_cons, List.length_nil, Option.some.injEq, exists_eq_left', Nat.reduceAdd, Nat.reduceLeDiff, true_and, and_true, true_or, or_true, Int.zero_add, Nat.zero_le, eq_self, ne_eq, not_true_eq_false, not_false_eq_true, false_implies, true_implies, implies_true, b2i_0, b2i_1, b2i_01, up_sc, sc_at, sc_sc, ite_true, ite_false, if_true, if_false, Nat.reduceEqDiff, reduceIte, x110 (n := n) pi.1.1 (show P.1 < 64 by omega) (show 0 ≤ P.2 by omega) (show P.2 < 64 by omega) li.1 (show lbD (σ 150) (ftR σ) P.1 P.2 ≤ 100000 by omega)]
      exact ⟨_, rfl, fin⟩
    · rw [if_neg (fun z => e2 z.2.2)] at fin
      have fin := fin σ1 a1
      simp only [s138_29, s138_32, s138_33, s138_34, s138_35, s138_38, s138_39, s138_40, s138_43, s138_44, s138_58, sx_push, tf, List.length_cons, List.length_nil, Option.some.injEq, exists_eq_left', Nat.reduceAdd, Nat.reduceLeDiff, true_and, and_true, true_or, or_true, Int.zero_add, Nat.zero_le, eq_self, ne_eq, not_true_eq_false, not_false_eq_true, false_implies, true_implies, implies_true, b2i_0, b2i_1, b2i_01, up_sc, sc_at, sc_sc, ite_true, ite_false, if_true, if_false, Nat.reduceEqDiff, reduceIte]
      repeat' (first | intro _ | refine And.intro ?_ ?_)
      all_goals first | omega | exact ⟨_, rfl, fin⟩
  · rw [if_neg (fun z => e ⟨z.1, z.2.1⟩)] at fin
    have x138f : ∀ K : Option sxV → sxT → sxS → Prop, K (some (vI (-1))) (T0 n) σ → Rn 138 0 [some (vR 1), some (vI w)] [] (T0 n) σ K := fun K hK => by
      simp only [s138_0, s138_1, s138_4, s138_7, s138_8, s138_11, s138_12, s138_15, s138_18, s138_19, s138_32, s138_33, sx_push, tf, List.length_cons, List.length_nil, Option.some.injEq, exists_eq_left', Nat.reduceAdd, Nat.reduceLeDiff, true_and, and_true, true_or, or_true, Int.zero_add, Nat.zero_le, eq_self, ne_eq, not_true_eq_false, not_false_eq_true, false_implies, true_implies, implies_true, b2i_0, b2i_1, b2i_01, up_sc, sc_at, sc_sc, ite_true, ite_false, if_true, if_false, Nat.reduceEqDiff, reduceIte, hP.1.2.2.2]
      repeat' (first | intro _ | refine And.intro ?_ ?_)
      all_goals first | exact hK | omega
    exact x138f _ ⟨rfl, _, rfl, fin σ fr_rfl⟩
end W2
