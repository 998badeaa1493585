/-! centers: the class -/
section T4
variable {n : Nat} {c : Int} {σ : sxS} {K : Option sxV → sxT → sxS → Prop} {f g ce : Int → Int}
theorem x103l (hr : rL σ 7 f) (hw : wfc f) {p m' : Int} (p0 : 0 ≤ p) (p1 : p < 40) (hp : f p = 1) (hm : m' ≤ 40) (hg : ∀ j, 0 ≤ j → j < m' → ((0 ≤ g j ∧ g j < 40) ∧ f (g j) = 1) ∧ σ 134 j = g j) : ∀ (m : Nat) (i b l : Int) (u : Option sxV), i + m = m' → 0 ≤ i → (b = -1 ∨ (0 ≤ b ∧ l = farO f p b)) → K (some (vI (ceJ f g p m i b))) (T0 n) σ → Rn 103 8 [some (vR 133), some (vI p), some (vI m'), some (vI b), some (vI l), some (vI i), u] [] (T0 n) σ K := by
  intro m
  induction m with
  | zero =>
    intro i b l u hi i0 hb hK
    rw [s103_8]
    simp only [s103_10, s103_11, s103_86, s103_87, sx_push, tf, List.length_cons, List.length_nil, Option.some.injEq, exists_eq_left', Nat.reduceAdd, Nat.reduceLeDiff, true_and, and_true, true_or, or_true, Int.zero_add, Nat.zero_le, eq_self, ne_eq, not_true_eq_false, not_false_eq_true, false_implies, true_implies, implies_true, b2i_0, b2i_1, b2i_01, up_sc, sc_at, sc_sc, ite_true, ite_false, if_true, if_false, Nat.reduceEqDiff, reduceIte]
    repeat' (first | intro _ | refine And.intro ?_ ?_)
    all_goals first | omega | exact hK
  | succ m ih =>
    intro i b l u hi i0 hb hK
    have z := hg i i0 (by omega)
    rw [s103_8]
    unfold ceJ at hK
    simp only [s103_10, s103_11, s103_14, s103_16, s103_18, s103_21, s103_22, s103_25, s103_26, s103_27, s103_30, s103_32, s103_33, s103_36, s103_38, s103_39, s103_40, s103_43, s103_45, s103_47, s103_50, s103_52, s103_54, s103_57, s103_58, s103_61, s103_63, s103_64, s103_65, s103_68, s103_69, s103_72, s103_74, s103_75, s103_76, s103_78, s103_80, s103_83, sx_push, tf, List.length_cons, List.length_nil, Option.some.injEq, exists_eq_left', Nat.reduceAdd, Nat.reduceLeDiff, true_and, and_true, true_or, or_true, Int.zero_add, Nat.zero_le, eq_self, ne_eq, not_true_eq_false, not_false_eq_true, false_implies, true_implies, implies_true, b2i_0, b2i_1, b2i_01, up_sc, sc_at, sc_sc, ite_true, ite_false, if_true, if_false, Nat.reduceEqDiff, reduceIte, z.2, x62o isP7 hr hw p0 p1 hp z.1.1.1 z.1.1.2 z.1.2]
    repeat' (first | intro _ | refine And.intro ?_ ?_)
    all_goals first | omega | (split at hK <;> first | omega | exact ih _ _ _ _ (by omega) (by omega) (Or.inr ⟨z.1.1.1, rfl⟩) hK | exact ih _ _ _ _ (by omega) (by omega) hb hK)
theorem x103 (hr : rL σ 7 f) (hw : wfc f) {p m' : Int} (p0 : 0 ≤ p) (p1 : p < 40) (hp : f p = 1) (hm0 : 0 ≤ m') (hm : m' ≤ 40) (hg : ∀ j, 0 ≤ j → j < m' → ((0 ≤ g j ∧ g j < 40) ∧ f (g j) = 1) ∧ σ 134 j = g j) : Rn 103 0 [some (vR 133), some (vI p), some (vI m'), none, none, none, none] [] (T0 n) σ K ↔ K (some (vI (ceT f g m' p))) (T0 n) σ := by
  refine Rn_iff fun K hK => ?_
  simp only [s103_0, s103_1, s103_2, s103_3, s103_5, s103_6, sx_push, tf, List.length_cons, List.length_nil, Option.some.injEq, exists_eq_left', Nat.reduceAdd, Nat.reduceLeDiff, true_and, and_true, true_or, or_true, Int.zero_add, Nat.zero_le, eq_self, ne_eq, not_true_eq_false, not_false_eq_true, false_implies, true_implies, implies_true, b2i_0, b2i_1, b2i_01, up_sc, sc_at, sc_sc, ite_true, ite_false, if_true, if_false, Nat.reduceEqDiff, reduceIte]
  exact x103l hr hw p0 p1 hp hm hg m'.toNat 0 (-1) 0 _ (by omega) (by omega) (Or.inl rfl) hK
/-- the class's centers are ce -/
def ceOk (n : Nat) (σ : sxS) (f ce : Int → Int) (m : Int) : Prop := ∀ p, 0 ≤ p → p < 40 → f p = 1 → ((0 ≤ ce p ∧ ce p < 40) ∧ f (ce p) = 1) ∧ ∀ K, Rn 103 0 [some (vR 133), some (vI p), some (vI m), none, none, none, none] [] (T0 n) σ K ↔ K (some (vI (ce p))) (T0 n) σ
theorem x102 (hr : rL σ 7 f) (hw : wfc f) {p m : Int} (hce : ceOk n σ f ce m) : Rn 102 0 [some (vR 133), some (vI p), some (vI m), none] [] (T0 n) σ K ↔ K (some (vI (if (0 ≤ p ∧ p < 40) ∧ f p = 1 then farO f p (ce p) else -1))) (T0 n) σ := by
  refine Rn_iff fun K hK => ?_
  by_cases e : (0 ≤ p ∧ p < 40) ∧ f p = 1
  · rw [if_pos e] at hK
    have z := hce p e.1.1 e.1.2 e.2
    have a49 := fun K => x49 (n := n) (σ := σ) (K := K) isP7 hr (p := p)
    rw [b2i_t e] at a49
    have b49 := fun K => x49 (n := n) (σ := σ) (K := K) isP7 hr (p := ce p)
    rw [b2i_t z.1] at b49
    simp only [s102_0, s102_1, s102_4, s102_5, s102_8, s102_11, s102_12, s102_13, s102_14, s102_15, s102_16, s102_19, s102_20, s102_21, s102_24, s102_25, s102_28, s102_31, s102_32, s102_35, s102_36, s102_37, s102_40, s102_43, s102_44, Int.reduceToNat, Int.reducePow, Nat.reducePow, Int.reduceLE, Int.reduceLT, Int.reduceNeg, Int.reduceEq, Int.reduceNe, Int.reduceAdd, Int.reduceSub, Int.reduceMul, and_self, sx_push, tf, List.length_cons, List.length_nil, Option.some.injEq, exists_eq_left', Nat.reduceAdd, Nat.reduceLeDiff, true_and, and_true, true_or, or_true, Int.zero_add, Nat.zero_le, eq_self, ne_eq, not_true_eq_false, not_false_eq_true, false_implies, true_implies, implies_true, b2i_0, b2i_1, b2i_01, up_sc, sc_at, sc_sc, ite_true, ite_false, if_true, if_false, Nat.reduceEqDiff, reduceIte, a49, b49, z.2, x62o isP7 hr hw e.1.1 e.1.2 e.2 z.1.1.1 z.1.1.2 z.1.2]
    repeat' (first | intro _ | refine And.intro ?_ ?_)
    all_goals first | omega | contradiction | exact hK
  · rw [if_neg e] at hK
    simp only [s102_0, s102_1, s102_4, s102_5, s102_8, s102_11, s102_12, sx_push, tf, List.length_cons, List.length_nil, Option.some.injEq, exists_eq_left', Nat.reduceAdd, Nat.reduceLeDiff, true_and, and_true, true_or, or_true, Int.zero_add, Nat.zero_le, eq_self, ne_eq, not_true_eq_false, not_false_eq_true, false_implies, true_implies, implies_true, b2i_0, b2i_1, b2i_01, up_sc, sc_at, sc_sc, ite_true, ite_false, if_true, if_false, Nat.reduceEqDiff, reduceIte, x49 isP7 hr]
    repeat' (first | intro _ | refine And.intro ?_ ?_)
    all_goals first | exact hK | omega
theorem x101l (hr : rL σ 7 f) (hw : wfc f) (h01 : th01 f) {m : Int} (hce : ceOk n σ f ce m) : ∀ (k : Nat) (p a b : Int) (u : Option sxV), p + k = 40 → 0 ≤ p → -1 ≤ b → K (some (vI (ffJ f ce k p a b).1)) (T0 n) σ → Rn 101 7 [some (vR 133), some (vI m), some (vI a), some (vI b), some (vI p), u] [] (T0 n) σ K := by
  intro k
  induction k with
  | zero =>
    intro p a b u hp p0 hb hK
    rw [s101_7]
    simp only [s101_9, s101_11, s101_41, s101_42, sx_push, tf, List.length_cons, List.length_nil, Option.some.injEq, exists_eq_left', Nat.reduceAdd, Nat.reduceLeDiff, true_and, and_true, true_or, or_true, Int.zero_add, Nat.zero_le, eq_self, ne_eq, not_true_eq_false, not_false_eq_true, false_implies, true_implies, implies_true, b2i_0, b2i_1, b2i_01, up_sc, sc_at, sc_sc, ite_true, ite_false, if_true, if_false, Nat.reduceEqDiff, reduceIte]
    repeat' (first | intro _ | refine And.intro ?_ ?_)
    all_goals first | omega | exact hK
  | succ k ih =>
    intro p a b u hp p0 hb hK
    have p1 : p < 40 := by omega
    rw [s101_7]
    unfold ffJ at hK
    have x102' := fun K => x102 (n := n) (σ := σ) (K := K) hr hw (p := p) hce
    rcases h01 p p0 p1 with e | e
    · rw [if_neg (by omega)] at hK x102'
      simp only [s101_9, s101_11, s101_14, s101_15, s101_17, s101_18, s101_21, s101_23, s101_25, s101_26, s101_29, s101_31, s101_32, s101_34, s101_35, s101_38, sx_push, tf, List.length_cons, List.length_nil, Option.some.injEq, exists_eq_left', Nat.reduceAdd, Nat.reduceLeDiff, true_and, and_true, true_or, or_true, Int.zero_add, Nat.zero_le, eq_self, ne_eq, not_true_eq_false, not_false_eq_true, false_implies, true_implies, implies_true, b2i_0, b2i_1, b2i_01, up_sc, sc_at, sc_sc, ite_true, ite_false, if_true, if_false, Nat.reduceEqDiff, reduceIte, x102']
      repeat' (first | intro _ | refine And.intro ?_ ?_)
      all_goals first | omega | exact ih _ _ _ _ (by omega) (by omega) hb hK
    · rw [if_pos ⟨⟨p0, p1⟩, e⟩] at x102'
      simp only [s101_9, s101_11, s101_14, s101_15, s101_17, s101_18, s101_21, s101_23, s101_25, s101_26, s101_29, s101_31, s101_32, s101_34, s101_35, s101_38, sx_push, tf, List.length_cons, List.length_nil, Option.some.injEq, exists_eq_left', Nat.reduceAdd, Nat.reduceLeDiff, true_and, and_true, true_or, or_true, Int.zero_add, Nat.zero_le, eq_self, ne_eq, not_true_eq_false, not_false_eq_true, false_implies, true_implies, implies_true, b2i_0, b2i_1, b2i_01, up_sc, sc_at, sc_sc, ite_true, ite_false, if_true, if_false, Nat.reduceEqDiff, reduceIte, x102']
      repeat' (first | intro _ | refine And.intro ?_ ?_)
      all_goals first | omega | (split at hK <;> first | omega | exact ih _ _ _ _ (by omega) (by omega) (by omega) hK)
theorem x101 (hr : rL σ 7 f) (hw : wfc f) (h01 : th01 f) {m : Int} (hce : ceOk n σ f ce m) : Rn 101 0 [some (vR 133), some (vI m), none, none, none, none] [] (T0 n) σ K ↔ K (some (vI (ffJ f ce 40 0 (-1) (-1)).1)) (T0 n) σ := by
  refine Rn_iff fun K hK => ?_
  simp only [s101_0, s101_1, s101_2, s101_3, s101_4, s101_5, sx_push, tf, List.length_cons, List.length_nil, Option.some.injEq, exists_eq_left', Nat.reduceAdd, Nat.reduceLeDiff, true_and, and_true, true_or, or_true, Int.zero_add, Nat.zero_le, eq_self, ne_eq, not_true_eq_false, not_false_eq_true, false_implies, true_implies, implies_true, b2i_0, b2i_1, b2i_01, up_sc, sc_at, sc_sc, ite_true, ite_false, if_true, if_false, Nat.reduceEqDiff, reduceIte]
  exact x101l hr hw h01 hce 40 0 (-1) (-1) _ (by omega) (by omega) (by omega) hK
theorem x104l {f g : Int → Int} (hi : invF f) {m : Int} (hm1 : 1 ≤ m) (hm : m ≤ 40) : ∀ (k : Nat) (p : Int) (σ : sxS) (C : Int → Int) (a : Int) (u : Option sxV), p + k = 40 → 0 ≤ p → rL σ 7 f → (∀ j, 0 ≤ j → j < m → ((0 ≤ g j ∧ g j < 40) ∧ f (g j) = 1) ∧ σ 134 j = g j) → (∀ j, 0 ≤ j → j < 40 → σ 139 j = C j ∧ 0 ≤ C j ∧ C j ≤ p) → (∀ σ', fr σ σ' 139 139 → K (some (vI (moJ f (ceT f g m) k p C a))) (T0 n) σ') → Rn 104 12 [some (vR 133), some (vI m), some (vI a), some (vI p), u] [] (T0 n) σ K := by
  intro k
  induction k with
  | zero =>
    intro p σ C a u hp p0 hr hg hC hK
    have := hK σ fr_rfl
    rw [s104_12]
    simp only [s104_13, s104_15, s104_82, s104_83, sx_push, tf, List.length_cons, List.length_nil, Option.some.injEq, exists_eq_left', Nat.reduceAdd, Nat.reduceLeDiff, true_and, and_true, true_or, or_true, Int.zero_add, Nat.zero_le, eq_self, ne_eq, not_true_eq_false, not_false_eq_true, false_implies, true_implies, implies_true, b2i_0, b2i_1, b2i_01, up_sc, sc_at, sc_sc, ite_true, ite_false, if_true, if_false, Nat.reduceEqDiff, reduceIte]
    repeat' (first | intro _ | refine And.intro ?_ ?_)
    all_goals first | omega | exact this
  | succ k ih =>
    intro p σ C a u hp p0 hr hg hC hK
    have p1 : p < 40 := by omega
    rw [s104_12]
    unfold moJ at hK
    have ci := ceT_in (f := f) (g := g) (p := p) hm1 (fun j a b => (hg j a b).1)
    have a49 := fun K => x49 (n := n) (σ := σ) (K := K) isP7 hr (p := p)
    have b49 := fun K => x49 (n := n) (σ := σ) (K := K) isP7 hr (p := ceT f g m p)
    have c49 := fun K => x49 (n := n) (σ := σ) (K := K) isP7 hr (p := -1)
    rw [b2i_t ci] at b49
    rw [b2i_f (by omega)] at c49
    rcases hi.1 p p0 p1 with e | e
    · rw [b2i_f (by omega)] at a49
      simp only [if_neg (show ¬ f p = 1 by omega)] at hK
      simp only [s104_13, s104_15, s104_18, s104_19, s104_22, s104_23, s104_26, s104_38, s104_39, s104_41, s104_42, s104_45, s104_47, s104_50, s104_76, s104_79, Int.reduceToNat, Int.reducePow, Nat.reducePow, Int.reduceLE, Int.reduceLT, Int.reduceNeg, Int.reduceEq, Int.reduceNe, Int.reduceAdd, Int.reduceSub, Int.reduceMul, and_self, sx_push, tf, List.length_cons, List.length_nil, Option.some.injEq, exists_eq_left', Nat.reduceAdd, Nat.reduceLeDiff, true_and, and_true, true_or, or_true, Int.zero_add, Nat.zero_le, eq_self, ne_eq, not_true_eq_false, not_false_eq_true, false_implies, true_implies, implies_true, b2i_0, b2i_1, b2i_01, up_sc, sc_at, sc_sc, ite_true, ite_false, if_true, if_false, Nat.reduceEqDiff, reduceIte, a49, c49]
      repeat' (first | intro _ | refine And.intro ?_ ?_)
      all_goals first | omega | contradiction | exact ih (p + 1) σ C a _ (by omega) (by omega) hr hg (fun j a b => ⟨(hC j a b).1, (hC j a b).2.1, by have := (hC j a b).2.2; omega⟩) hK
    · rw [b2i_t ⟨⟨p0, p1⟩, e⟩] at a49
      simp only [if_pos e] at hK
      have x103' := fun K => x103 (n := n) (σ := σ) (K := K) hr hi.2.1 p0 p1 e (by omega) hm hg
      have cc := hC _ ci.1.1 ci.1.2
      simp only [s104_13, s104_15, s104_18, s104_19, s104_22, s104_23, s104_26, s104_29, s104_30, s104_31, s104_32, s104_35, s104_38, s104_39, s104_41, s104_42, s104_45, s104_47, s104_50, s104_53, s104_54, s104_57, s104_59, s104_60, s104_61, s104_62, s104_63, s104_64, s104_65, s104_66, s104_69, s104_71, s104_72, s104_75, s104_76, s104_79, Int.reduceToNat, Int.reducePow, Nat.reducePow, Int.reduceLE, Int.reduceLT, Int.reduceNeg, Int.reduceEq, Int.reduceNe, Int.reduceAdd, Int.reduceSub, Int.reduceMul, and_self, sx_push, tf, List.length_cons, List.length_nil, Option.some.injEq, exists_eq_left', Nat.reduceAdd, Nat.reduceLeDiff, true_and, and_true, true_or, or_true, Int.zero_add, Nat.zero_le, eq_self, ne_eq, not_true_eq_false, not_false_eq_true, false_implies, true_implies, implies_true, b2i_0, b2i_1, b2i_01, up_sc, sc_at, sc_sc, ite_true, ite_false, if_true, if_false, Nat.reduceEqDiff, reduceIte, a49, b49, x103', cc.1, up1_s]
      repeat' (first | intro _ | refine And.intro ?_ ?_)
      all_goals first | omega | contradiction | skip
      refine ih (p + 1) _ (up1 C (ceT f g m p) (C (ceT f g m p) + 1)) _ _ (by omega) (by omega) (rL_k hr (fun k hk => by rw [sc_at, if_neg (by omega)])) (fun j a b => ?_) (fun j a b => ?_) (fun σ' a1 => hK σ' (fr_tr (fr_sc fr_rfl (by omega) (by omega)) a1))
      · rw [sc_at, if_neg (by decide)]; exact hg j a b
      · simp only [sc_at, reduceIte]
        have z := hC j a b
        by_cases e2 : j = ceT f g m p
        · rw [e2, up1_s, up1_s]; omega
        · rw [up1_n e2, up1_n e2]; omega
theorem x104 (hi : invF f) {m : Int} (hm1 : 1 ≤ m) (hm : m ≤ 40) (hr : rL σ 7 f) (hg : ∀ j, 0 ≤ j → j < m → ((0 ≤ g j ∧ g j < 40) ∧ f (g j) = 1) ∧ σ 134 j = g j) (hK : ∀ σ', fr σ σ' 139 139 → K (some (vI (crJ f (ceT f g m) 40 0 0))) (T0 n) σ') : Rn 104 0 [some (vR 133), some (vI m), none, none, none] [] (T0 n) σ K := by
  rw [← mo_cr (fun p _ _ _ => ceT_in hm1 (fun j a b => (hg j a b).1))] at hK
  simp only [s104_0, s104_1, s104_4, s104_5, s104_8, s104_9, s104_10, s104_11, sx_push, tf, List.length_cons, List.length_nil, Option.some.injEq, exists_eq_left', Nat.reduceAdd, Nat.reduceLeDiff, true_and, and_true, true_or, or_true, Int.zero_add, Nat.zero_le, eq_self, ne_eq, not_true_eq_false, not_false_eq_true, false_implies, true_implies, implies_true, b2i_0, b2i_1, b2i_01, up_sc, sc_at, sc_sc, ite_true, ite_false, if_true, if_false, Nat.reduceEqDiff, reduceIte, x5 (T := T0 n) (a := 139) rfl rfl]
  have hr1 : rL (sc σ 139 (cpF (fun _ => 0) (σ 139) 40)) 7 f := rL_k hr (fun k hk => by rw [sc_at, if_neg (by omega)])
  refine x104l (g := g) hi hm1 hm 40 0 _ (fun _ => 0) 0 _ (by omega) (by omega) hr1 (fun j a b => ?_) (fun j a b => ⟨?_, by omega, by omega⟩) (fun σ' a1 => hK σ' (fr_tr (fr_sc fr_rfl (by omega) (by omega)) a1))
  · rw [sc_at, if_neg (by decide)]; exact hg j a b
  · simp only [sc_at, reduceIte]; unfold cpF; rw [if_pos ⟨a, b⟩]
theorem cl23 {p m : Int} : call2 n c 105 241 [some (vR 1), some (vI p), some (vI m)] [some (vR 149), some (vI p), some (vI m), none] := fun σ h => by
  have h' := h
  obtain ⟨hP, hO, hM, hH, hT, hR, hS, hF, hQ, hV, hI, hG, hW⟩ := h'
  have cl := cntF_in hO.1.1 40 0 0 (by omega) (by omega)
  have ts := TH_spec hO.1
  by_cases e : ((0 ≤ p ∧ p < 40) ∧ σ 150 p = 1) ∧ (1 ≤ m ∧ m ≤ cntF (σ 150) 40 0 0)
  · have a49 := fun K => x49 (n := n) (σ := σ) (K := K) isP7 hP.1.1 (p := p)
    rw [b2i_t e.1] at a49
    simp only [s105_0, s105_1, s105_4, s105_5, s105_8, s105_11, s105_12, s105_13, s105_16, s105_17, s105_18, s105_21, s105_24, s105_27, s105_28, s105_29, s105_30, s105_33, Int.reduceToNat, Int.reducePow, Nat.reducePow, Int.reduceLE, Int.reduceLT, Int.reduceNeg, Int.reduceEq, Int.reduceNe, Int.reduceAdd, Int.reduceSub, Int.reduceMul, and_self, sx_push, tf, List.length_cons, List.length_nil, Option.some.injEq, exists_eq_left', Nat.reduceAdd, Nat.reduceLeDiff, true_and, and_true, true_or, or_true, Int.zero_add, Nat.zero_le, eq_self, ne_eq, not_true_eq_false, not_false_eq_true, false_implies, true_implies, implies_true, b2i_0, b2i_1, b2i_01, up_sc, sc_at, sc_sc, ite_true, ite_false, if_true, if_false, Nat.reduceEqDiff, reduceIte, a49, hP.1.2.2.2]
    repeat' (first | intro _ | refine And.intro ?_ ?_)
    all_goals first | omega | contradiction | skip
    refine x99 hO.1 hP.1.1 hP.1.2.2.1 hP.1.2.2.2 (fun σ1 a1 a2 => ?_)
    have g150 : σ1 150 = σ 150 := a1 150 (by omega)
    have hr1 := rL_fr a1 (by omega) hP.1.1
    have x103' := fun K => x103 (n := n) (σ := σ1) (K := K) (g := (TH (σ 150)).1) hr1 hO.1.2.1 e.1.1.1 e.1.1.2 e.1.2 (m' := m) (by omega) (by omega) (fun j a b => ⟨ts.2 j a (by omega), a2 j a (by omega)⟩)
    simp only [s105_36, s105_37, s105_40, s105_41, s105_42, s105_45, sx_push, tf, List.length_cons, List.length_nil, Option.some.injEq, exists_eq_left', Nat.reduceAdd, Nat.reduceLeDiff, true_and, and_true, true_or, or_true, Int.zero_add, Nat.zero_le, eq_self, ne_eq, not_true_eq_false, not_false_eq_true, false_implies, true_implies, implies_true, b2i_0, b2i_1, b2i_01, up_sc, sc_at, sc_sc, ite_true, ite_false, if_true, if_false, Nat.reduceEqDiff, reduceIte, x103']
    refine ⟨_, rfl, ?_⟩
    refine x241 (by rw [g150]; exact hO.1) (fun σ2 b1 => ?_)
    rw [g150, if_pos e]
    exact ⟨rfl, rfl, Rel_w2 h a1 b1⟩
  · have x105f : ∀ K : Option sxV → sxT → sxS → Prop, K (some (vI (-1))) (T0 n) σ → Rn 105 0 [some (vR 1), some (vI p), some (vI m)] [] (T0 n) σ K := fun K hK => by
      simp only [s105_0, s105_1, s105_4, s105_5, s105_8, s105_11, s105_12, s105_13, s105_16, s105_17, s105_18, s105_21, s105_24, s105_27, s105_28, sx_push, tf, List.length_cons, List.length_nil, Option.some.injEq, exists_eq_left', Nat.reduceAdd, Nat.reduceLeDiff, true_and, and_true, true_or, or_true, Int.zero_add, Nat.zero_le, eq_self, ne_eq, not_true_eq_false, not_false_eq_true, false_implies, true_implies, implies_true, b2i_0, b2i_1, b2i_01, up_sc, sc_at, sc_sc, ite_true, ite_false, if_true, if_false, Nat.reduceEqDiff, reduceIte, x49 isP7 hP.1.1, hP.1.2.2.2]
      repeat' (first | intro _ | refine And.intro ?_ ?_)
      all_goals first | exact hK | omega
    refine x105f _ ⟨rfl, _, rfl, ?_⟩
    refine x241 hO.1 (fun σ2 b1 => ?_)
    rw [if_neg e]
    exact ⟨rfl, rfl, Rel_w2 h fr_rfl b1⟩
theorem cl22 {m w : Int} : call2 n c 98 243 [some (vR 1), some (vI m), some (vI w)] [some (vR 149), some (vI m), some (vI w), none, none, none, none, none, none, none, none] := fun σ h => by
  have h' := h
  obtain ⟨hP, hO, hM, hH, hT, hR, hS, hF, hQ, hV, hI, hG, hW⟩ := h'
  have cl := cntF_in hO.1.1 40 0 0 (by omega) (by omega)
  have ts := TH_spec hO.1
  by_cases e : 1 ≤ m ∧ m ≤ cntF (σ 150) 40 0 0
  · simp only [s98_0, s98_1, s98_2, s98_5, s98_6, s98_7, s98_10, s98_13, s98_16, s98_17, s98_18, s98_19, s98_22, sx_push, tf, List.length_cons, List.length_nil, Option.some.injEq, exists_eq_left', Nat.reduceAdd, Nat.reduceLeDiff, true_and, and_true, true_or, or_true, Int.zero_add, Nat.zero_le, eq_self, ne_eq, not_true_eq_false, not_false_eq_true, false_implies, true_implies, implies_true, b2i_0, b2i_1, b2i_01, up_sc, sc_at, sc_sc, ite_true, ite_false, if_true, if_false, Nat.reduceEqDiff, reduceIte, hP.1.2.2.2]
    repeat' (first | intro _ | refine And.intro ?_ ?_)
    all_goals first | omega | skip
    refine x99 hO.1 hP.1.1 hP.1.2.2.1 hP.1.2.2.2 (fun σ1 a1 a2 => ?_)
    have g150 : σ1 150 = σ 150 := a1 150 (by omega)
    have hr1 := rL_fr a1 (by omega) hP.1.1
    have fin : ∀ v σ2, fr σ1 σ2 134 140 → v = (if 0 ≤ w ∧ w ≤ 2 then cenS (σ 150) m w else -1) → ∃ v', vI v = vI v' ∧ Rn 243 0 [some (vR 149), some (vI m), some (vI w), none, none, none, none, none, none, none, none] [] (T0 n) σ2 (fun r2 T2 σ3 => T2 = T0 n ∧ r2 = some (vI v') ∧ Rel (c + 1) σ3 ∧ σ3 0 = σ 0) := fun v σ2 d1 hv => by
      refine ⟨v, rfl, ?_⟩
      have k150 : σ2 150 = σ 150 := by rw [d1 150 (by omega), g150]
      refine x243 (by rw [k150]; exact hO.1) (fun σ3 b1 => ?_)
      rw [k150]
      have ev : (if (1 ≤ m ∧ m ≤ cntF (σ 150) 40 0 0) ∧ (0 ≤ w ∧ w ≤ 2) then cenS (σ 150) m w else -1) = v := by
        rw [hv]
        generalize cenS (σ 150) m w = r
        by_cases q : 0 ≤ w ∧ w ≤ 2
        · rw [if_pos q, if_pos ⟨e, q⟩]
        · rw [if_neg q, if_neg (fun z => q z.2)]
      rw [ev]
      exact ⟨rfl, rfl, Rel_w2 h (fr_tr a1 d1) b1⟩
    have hg1 : ∀ j, 0 ≤ j → j < m → (((0 ≤ (TH (σ 150)).1 j ∧ (TH (σ 150)).1 j < 40)) ∧ σ 150 ((TH (σ 150)).1 j) = 1) ∧ σ1 134 j = (TH (σ 150)).1 j := fun j a b => ⟨ts.2 j a (by omega), a2 j a (by omega)⟩
    have hce : ceOk n σ1 (σ 150) (ceT (σ 150) (TH (σ 150)).1 m) m := fun p p0 p1 hp => ⟨ceT_in e.1 (fun j a b => (hg1 j a b).1), fun K => x103 hr1 hO.1.2.1 p0 p1 hp (by omega) (by omega) hg1⟩
    have m104 : ∀ K : Option sxV → sxT → sxS → Prop, (∀ σ', fr σ1 σ' 139 139 → K (some (vI (crJ (σ 150) (ceT (σ 150) (TH (σ 150)).1 m) 40 0 0))) (T0 n) σ') → Rn 104 0 [some (vR 133), some (vI m), none, none, none] [] (T0 n) σ1 K := fun K hK => x104 hO.1 e.1 (by omega) hr1 hg1 hK
    have ff := ffJ_in (f := σ 150) (ce := ceT (σ 150) (TH (σ 150)).1 m) 40 0 (-1) (-1) (by omega) (by omega) (Or.inl ⟨rfl, rfl⟩)
    unfold cenS at fin
    generalize ceT (σ 150) (TH (σ 150)).1 m = ce at *
    have x101' := fun K => x101 (n := n) (σ := σ1) (K := K) hr1 hO.1.2.1 hO.1.1 hce
    generalize ffJ (σ 150) ce 40 0 (-1) (-1) = F at *
    generalize crJ (σ 150) ce 40 0 0 = C at *
    have x102' := fun K => x102 (n := n) (σ := σ1) (K := K) hr1 hO.1.2.1 (p := F.1) hce
    have e102 : (if (0 ≤ F.1 ∧ F.1 < 40) ∧ σ 150 F.1 = 1 then farO (σ 150) F.1 (ce F.1) else -1) = F.2 := by
      rcases ff with ⟨z1, z2⟩ | ⟨z1, z2, z3⟩
      · rw [if_neg (by omega), z2]
      · rw [if_pos ⟨z1, z2⟩, z3]
    rw [e102] at x102'
    simp only [s98_25, s98_26, s98_52, s98_53, s98_56, s98_57, s98_60, s98_61, s98_64, s98_65, s98_68, s98_69, s98_70, s98_73, s98_74, s98_77, s98_78, s98_79, s98_82, s98_83, s98_86, s98_87, s98_88, sx_push, tf, List.length_cons, List.length_nil, Option.some.injEq, exists_eq_left', Nat.reduceAdd, Nat.reduceLeDiff, true_and, and_true, true_or, or_true, Int.zero_add, Nat.zero_le, eq_self, ne_eq, not_true_eq_false, not_false_eq_true, false_implies, true_implies, implies_true, b2i_0, b2i_1, b2i_01, up_sc, sc_at, sc_sc, ite_true, ite_false, if_true, if_false, Nat.reduceEqDiff, reduceIte, sx_sw, x101', x102']
    repeat' (first | intro _ | refine And.intro ?_ ?_)
    all_goals first | (refine fin _ σ1 fr_rfl ?_; (repeat' split) <;> first | rfl | assumption | omega) | skip
    all_goals first | omega | skip
    refine m104 _ (fun σ2 d1 => ?_)
    simp only [s98_86, sx_push, tf, List.length_cons, List.length_nil, Option.some.injEq, exists_eq_left', Nat.reduceAdd, Nat.reduceLeDiff, true_and, and_true, true_or, or_true, Int.zero_add, Nat.zero_le, eq_self, ne_eq, not_true_eq_false, not_false_eq_true, false_implies, true_implies, implies_true, b2i_0, b2i_1, b2i_01, up_sc, sc_at, sc_sc, ite_true, ite_false, if_true, if_false, Nat.reduceEqDiff, reduceIte]
    refine fin _ σ2 (fr_w d1 (by omega) (by omega)) ?_
    rename_i w0 w1 w2
    (repeat' split) <;> first | rfl | omega
  · have x98f : ∀ K : Option sxV → sxT → sxS → Prop, K (some (vI (-1))) (T0 n) σ → Rn 98 0 [some (vR 1), some (vI m), some (vI w)] [] (T0 n) σ K := fun K hK => by
      simp only [s98_0, s98_1, s98_2, s98_5, s98_6, s98_7, s98_10, s98_13, s98_16, s98_17, sx_push, tf, List.length_cons, List.length_nil, Option.some.injEq, exists_eq_left', Nat.reduceAdd, Nat.reduceLeDiff, true_and, and_true, true_or, or_true, Int.zero_add, Nat.zero_le, eq_self, ne_eq, not_true_eq_false, not_false_eq_true, false_implies, true_implies, implies_true, b2i_0, b2i_1, b2i_01, up_sc, sc_at, sc_sc, ite_true, ite_false, if_true, if_false, Nat.reduceEqDiff, reduceIte, hP.1.2.2.2]
      repeat' (first | intro _ | refine And.intro ?_ ?_)
      all_goals first | exact hK | omega
    refine x98f _ ⟨rfl, _, rfl, ?_⟩
    refine x243 hO.1 (fun σ2 b1 => ?_)
    rw [if_neg (fun z => e z.1)]
    exact ⟨rfl, rfl, Rel_w2 h fr_rfl b1⟩
end T4
