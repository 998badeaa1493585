/-! thinned out: the class; thin -/
section T2
variable {n : Nat} {c : Int} {σ : sxS} {K : Option sxV → sxT → sxS → Prop} {f g tk : Int → Int}
theorem x100l (hr : rL σ 7 f) (h01 : th01 f) {m' : Int} (ht : ∀ p, 0 ≤ p → p < 40 → (tk p = 0 ∨ tk p = 1) ∧ σ 140 p = tk p) (hl : ∀ p, 0 ≤ p → p < 40 → f p = 1 → σ 137 p = lsT f g m' p) : ∀ (k : Nat) (p b : Int), p + k = 40 → 0 ≤ p → (b = -1 ∨ (0 ≤ b ∧ b < 40 ∧ f b = 1)) → K (some (vI (nxJ f g tk m' k p b))) (T0 n) σ → Rn 100 4 [some (vR 133), some (vI b), some (vI p)] [] (T0 n) σ K := by
  intro k
  induction k with
  | zero =>
    intro p b hp p0 hb hK
    rw [s100_4]
    simp only [s100_0, s100_1, s100_2, s100_3, s100_5, s100_7, s100_10, s100_11, s100_14, s100_15, s100_18, s100_21, s100_22, s100_25, s100_26, s100_27, s100_30, s100_31, s100_32, s100_35, s100_36, s100_39, s100_40, s100_41, s100_42, s100_45, s100_46, s100_47, s100_50, s100_51, s100_52, s100_55, s100_58, s100_59, sx_push, tf, List.length_cons, List.length_nil, Option.some.injEq, exists_eq_left', Nat.reduceAdd, Nat.reduceLeDiff, true_and, and_true, true_or, or_true, Int.zero_add, Nat.zero_le, eq_self, ne_eq, not_true_eq_false, not_false_eq_true, false_implies, true_implies, implies_true, b2i_0, b2i_1, b2i_01, up_sc, sc_at, sc_sc, ite_true, ite_false, if_true, if_false, Nat.reduceEqDiff, reduceIte]
    repeat' (first | intro _ | refine And.intro ?_ ?_)
    all_goals first | omega | exact hK
  | succ k ih =>
    intro p b hp p0 hb hK
    have p1 : p < 40 := by omega
    rw [s100_4]
    unfold nxJ at hK
    rcases h01 p p0 p1 with e | e
    · rw [if_neg (by omega)] at hK
      simp only [s100_0, s100_1, s100_2, s100_3, s100_5, s100_7, s100_10, s100_11, s100_14, s100_15, s100_18, s100_21, s100_22, s100_25, s100_26, s100_27, s100_30, s100_31, s100_32, s100_35, s100_36, s100_39, s100_40, s100_41, s100_42, s100_45, s100_46, s100_47, s100_50, s100_51, s100_52, s100_55, s100_58, s100_59, sx_push, tf, List.length_cons, List.length_nil, Option.some.injEq, exists_eq_left', Nat.reduceAdd, Nat.reduceLeDiff, true_and, and_true, true_or, or_true, Int.zero_add, Nat.zero_le, eq_self, ne_eq, not_true_eq_false, not_false_eq_true, false_implies, true_implies, implies_true, b2i_0, b2i_1, b2i_01, up_sc, sc_at, sc_sc, ite_true, ite_false, if_true, if_false, Nat.reduceEqDiff, reduceIte, x49 isP7 hr]
      repeat' (first | intro _ | refine And.intro ?_ ?_)
      all_goals first | omega | exact ih _ _ (by omega) (by omega) hb hK
    · have hp' := ht p p0 p1
      by_cases e2 : tk p = 1
      · rw [if_neg (fun z => z.1.2 e2)] at hK
        simp only [s100_0, s100_1, s100_2, s100_3, s100_5, s100_7, s100_10, s100_11, s100_14, s100_15, s100_18, s100_21, s100_22, s100_25, s100_26, s100_27, s100_30, s100_31, s100_32, s100_35, s100_36, s100_39, s100_40, s100_41, s100_42, s100_45, s100_46, s100_47, s100_50, s100_51, s100_52, s100_55, s100_58, s100_59, sx_push, tf, List.length_cons, List.length_nil, Option.some.injEq, exists_eq_left', Nat.reduceAdd, Nat.reduceLeDiff, true_and, and_true, true_or, or_true, Int.zero_add, Nat.zero_le, eq_self, ne_eq, not_true_eq_false, not_false_eq_true, false_implies, true_implies, implies_true, b2i_0, b2i_1, b2i_01, up_sc, sc_at, sc_sc, ite_true, ite_false, if_true, if_false, Nat.reduceEqDiff, reduceIte, x49 isP7 hr, hp'.2, e2]
        repeat' (first | intro _ | refine And.intro ?_ ?_)
        all_goals first | omega | contradiction | exact ih _ _ (by omega) (by omega) hb hK
      · have e3 : tk p = 0 := by omega
        rcases hb with rfl | ⟨b0, b1, b2⟩
        · rw [if_pos ⟨⟨e, e2⟩, Or.inl rfl⟩] at hK
          simp only [s100_0, s100_1, s100_2, s100_3, s100_5, s100_7, s100_10, s100_11, s100_14, s100_15, s100_18, s100_21, s100_22, s100_25, s100_26, s100_27, s100_30, s100_31, s100_32, s100_35, s100_36, s100_39, s100_40, s100_41, s100_42, s100_45, s100_46, s100_47, s100_50, s100_51, s100_52, s100_55, s100_58, s100_59, sx_push, tf, List.length_cons, List.length_nil, Option.some.injEq, exists_eq_left', Nat.reduceAdd, Nat.reduceLeDiff, true_and, and_true, true_or, or_true, Int.zero_add, Nat.zero_le, eq_self, ne_eq, not_true_eq_false, not_false_eq_true, false_implies, true_implies, implies_true, b2i_0, b2i_1, b2i_01, up_sc, sc_at, sc_sc, ite_true, ite_false, if_true, if_false, Nat.reduceEqDiff, reduceIte, x49 isP7 hr, hp'.2, e3]
          repeat' (first | intro _ | refine And.intro ?_ ?_)
          all_goals first | omega | contradiction | exact ih _ _ (by omega) (by omega) (Or.inr ⟨p0, p1, e⟩) hK
        · simp only [s100_0, s100_1, s100_2, s100_3, s100_5, s100_7, s100_10, s100_11, s100_14, s100_15, s100_18, s100_21, s100_22, s100_25, s100_26, s100_27, s100_30, s100_31, s100_32, s100_35, s100_36, s100_39, s100_40, s100_41, s100_42, s100_45, s100_46, s100_47, s100_50, s100_51, s100_52, s100_55, s100_58, s100_59, sx_push, tf, List.length_cons, List.length_nil, Option.some.injEq, exists_eq_left', Nat.reduceAdd, Nat.reduceLeDiff, true_and, and_true, true_or, or_true, Int.zero_add, Nat.zero_le, eq_self, ne_eq, not_true_eq_false, not_false_eq_true, false_implies, true_implies, implies_true, b2i_0, b2i_1, b2i_01, up_sc, sc_at, sc_sc, ite_true, ite_false, if_true, if_false, Nat.reduceEqDiff, reduceIte, x49 isP7 hr, hp'.2, e3, hl p p0 p1 e, hl b b0 b1 b2]
          by_cases e4 : lsT f g m' b < lsT f g m' p
          · rw [if_pos ⟨⟨e, e2⟩, Or.inr e4⟩] at hK
            repeat' (first | intro _ | refine And.intro ?_ ?_)
            all_goals first | omega | contradiction | exact ih _ _ (by omega) (by omega) (Or.inr ⟨p0, p1, e⟩) hK
          · rw [if_neg (fun z => z.2.elim (by omega) e4)] at hK
            repeat' (first | intro _ | refine And.intro ?_ ?_)
            all_goals first | omega | contradiction | exact ih _ _ (by omega) (by omega) (Or.inr ⟨b0, b1, b2⟩) hK
theorem x100 (hr : rL σ 7 f) (h01 : th01 f) {m' : Int} (ht : ∀ p, 0 ≤ p → p < 40 → (tk p = 0 ∨ tk p = 1) ∧ σ 140 p = tk p) (hl : ∀ p, 0 ≤ p → p < 40 → f p = 1 → σ 137 p = lsT f g m' p) : Rn 100 0 [some (vR 133), none, none] [] (T0 n) σ K ↔ K (some (vI (nxT f g tk m'))) (T0 n) σ := by
  refine Rn_iff fun K hK => ?_
  unfold nxT at hK
  simp only [s100_0, s100_1, s100_2, s100_3, s100_5, s100_7, s100_10, s100_11, s100_14, s100_15, s100_18, s100_21, s100_22, s100_25, s100_26, s100_27, s100_30, s100_31, s100_32, s100_35, s100_36, s100_39, s100_40, s100_41, s100_42, s100_45, s100_46, s100_47, s100_50, s100_51, s100_52, s100_55, s100_58, s100_59, sx_push, tf, List.length_cons, List.length_nil, Option.some.injEq, exists_eq_left', Nat.reduceAdd, Nat.reduceLeDiff, true_and, and_true, true_or, or_true, Int.zero_add, Nat.zero_le, eq_self, ne_eq, not_true_eq_false, not_false_eq_true, false_implies, true_implies, implies_true, b2i_0, b2i_1, b2i_01, up_sc, sc_at, sc_sc, ite_true, ite_false, if_true, if_false, Nat.reduceEqDiff, reduceIte]
  exact x100l hr h01 ht hl 40 0 (-1) (by omega) (by omega) (Or.inl rfl) hK
/-- the least of two for all that are there, up to i -/
def mnF (f h : Int → Int) (q i : Int) : Int → Int := fun p => if (0 ≤ p ∧ p < i) ∧ f p = 1 then min (h p) (farO f p q) else h p
theorem mnF_0 (f h : Int → Int) (q : Int) : mnF f h q 0 = h := by funext p; unfold mnF; rw [if_neg (by omega)]
theorem mnF_i (f h : Int → Int) (q i : Int) : mnF f h q i i = h i := by unfold mnF; rw [if_neg (by omega)]
theorem mnF_s {f h : Int → Int} {q i : Int} (i0 : 0 ≤ i) (hi : f i = 1) : up1 (mnF f h q i) i (min (h i) (farO f i q)) = mnF f h q (i + 1) := by
  funext j
  unfold up1 mnF
  by_cases e : j = i
  · subst e; rw [if_pos rfl, if_pos ⟨by omega, hi⟩]
  · rw [if_neg e]
    by_cases c : (0 ≤ j ∧ j < i) ∧ f j = 1
    · rw [if_pos c, if_pos ⟨by omega, c.2⟩]
    · rw [if_neg c, if_neg (fun z => c ⟨by omega, z.2⟩)]
theorem mnF_n {f h : Int → Int} {q i : Int} (hi : f i ≠ 1) : mnF f h q i = mnF f h q (i + 1) := by
  funext j
  unfold mnF
  by_cases e : j = i
  · subst e; rw [if_neg (fun z => hi z.2), if_neg (fun z => hi z.2)]
  · by_cases c : (0 ≤ j ∧ j < i) ∧ f j = 1
    · rw [if_pos c, if_pos ⟨by omega, c.2⟩]
    · rw [if_neg c, if_neg (fun z => c ⟨by omega, z.2⟩)]
theorem rL_k {σ' : sxS} (hr : rL σ 7 f) (h : ∀ k, k < 12 → σ' k = σ k) : rL σ' 7 f := fun p x y => by
  rw [h (7 + 2) (by omega), h (7 + 1) (by omega), h 7 (by omega)]; exact hr p x y
theorem x99i (hr : rL σ 7 f) (h01 : th01 f) (hw : wfc f) {nx i' : Int} (n0 : 0 ≤ nx) (n1 : nx < 40) (hn : f nx = 1) : ∀ (k : Nat) (p : Int), p + k = 40 → 0 ≤ p → Rn 99 130 [some (vR 133), some (vI nx), some (vI i'), some (vI 40)] [] (T0 n) (sc σ 137 (mnF f (σ 137) nx 40)) K → Rn 99 83 [some (vR 133), some (vI nx), some (vI i'), some (vI p)] [] (T0 n) (sc σ 137 (mnF f (σ 137) nx p)) K := by
  intro k
  induction k with
  | zero =>
    intro p hp p0 hK
    obtain rfl : p = 40 := by omega
    rw [s99_83]
    simp only [s99_84, s99_86, sx_push, tf, List.length_cons, List.length_nil, Option.some.injEq, exists_eq_left', Nat.reduceAdd, Nat.reduceLeDiff, true_and, and_true, true_or, or_true, Int.zero_add, Nat.zero_le, eq_self, ne_eq, not_true_eq_false, not_false_eq_true, false_implies, true_implies, implies_true, b2i_0, b2i_1, b2i_01, up_sc, sc_at, sc_sc, ite_true, ite_false, if_true, if_false, Nat.reduceEqDiff, reduceIte]
    repeat' (first | intro _ | refine And.intro ?_ ?_)
    all_goals first | omega | exact hK
  | succ k ih =>
    intro p hp p0 hK
    have p1 : p < 40 := by omega
    have hr' : rL (sc σ 137 (mnF f (σ 137) nx p)) 7 f := rL_k hr (fun k hk => by rw [sc_at, if_neg (by omega)])
    rw [s99_83]
    rcases h01 p p0 p1 with e | e
    · simp only [s99_84, s99_86, s99_89, s99_90, s99_93, s99_94, s99_97, s99_124, s99_127, sx_push, tf, List.length_cons, List.length_nil, Option.some.injEq, exists_eq_left', Nat.reduceAdd, Nat.reduceLeDiff, true_and, and_true, true_or, or_true, Int.zero_add, Nat.zero_le, eq_self, ne_eq, not_true_eq_false, not_false_eq_true, false_implies, true_implies, implies_true, b2i_0, b2i_1, b2i_01, up_sc, sc_at, sc_sc, ite_true, ite_false, if_true, if_false, Nat.reduceEqDiff, reduceIte, x49 isP7 hr']
      repeat' (first | intro _ | refine And.intro ?_ ?_)
      all_goals first | omega | (rw [mnF_n (by omega)]; exact ih _ (by omega) (by omega) hK)
    · simp only [s99_84, s99_86, s99_89, s99_90, s99_93, s99_94, s99_97, s99_100, s99_101, s99_104, s99_105, s99_106, s99_109, s99_110, s99_111, s99_112, s99_115, s99_116, s99_117, s99_120, s99_123, s99_124, s99_127, sx_push, tf, List.length_cons, List.length_nil, Option.some.injEq, exists_eq_left', Nat.reduceAdd, Nat.reduceLeDiff, true_and, and_true, true_or, or_true, Int.zero_add, Nat.zero_le, eq_self, ne_eq, not_true_eq_false, not_false_eq_true, false_implies, true_implies, implies_true, b2i_0, b2i_1, b2i_01, up_sc, sc_at, sc_sc, ite_true, ite_false, if_true, if_false, Nat.reduceEqDiff, reduceIte, x49 isP7 hr', x62o isP7 hr' hw p0 p1 e n0 n1 hn, mnF_i, mnF_s p0 e]
      repeat' (first | intro _ | refine And.intro ?_ ?_)
      all_goals first | omega | exact ih _ (by omega) (by omega) hK
theorem lsT_s {f g : Int → Int} {n' nx p : Int} (hw : wfc f) (n0 : 0 ≤ n') (hn : 0 ≤ nx ∧ nx < 40) (p0 : 0 ≤ p) (p1 : p < 40) (hg : ∀ j, 0 ≤ j → j < n' → 0 ≤ g j ∧ g j < 40) (v : Int) (hv : (n' = 0 ∧ v = 2147483647) ∨ (0 < n' ∧ v = lsT f g n' p)) : min v (farO f p nx) = lsT f (up1 g n' nx) (n' + 1) p := by
  have fo := farO_in hw p0 p1 hn.1 hn.2
  unfold lsT
  rw [show (n' + 1).toNat = n'.toNat + 1 by omega, lfJ_sn, show (0 : Int) + (n'.toNat : Int) = n' by omega, up1_s]
  rw [lfJ_cg (g := up1 g n' nx) (h := g) n'.toNat 0 1000000 (fun j a b => up1_n (by omega))]
  rcases hv with ⟨e1, e2⟩ | ⟨e1, e2⟩
  · subst e1
    show min v (farO f p nx) = if farO f p nx < 1000000 then farO f p nx else 1000000
    rw [if_pos (by omega)]; omega
  · unfold lsT at e2
    rw [← e2]
    split <;> omega
theorem x99l {f : Int → Int} (hi : invF f) : ∀ (m : Nat) (σ : sxS) (g tk : Int → Int) (n' nx : Int) (u : Option sxV), n' + m = 41 → iT f g tk n' nx → rL σ 7 f → σ 7 6 = cntF f 40 0 0 → (∀ j, 0 ≤ j → j < n' → σ 134 j = g j) → (∀ p, 0 ≤ p → p < 40 → σ 140 p = tk p) → (∀ p, 0 ≤ p → p < 40 → f p = 1 → (n' = 0 ∧ σ 137 p = 2147483647) ∨ (0 < n' ∧ σ 137 p = lsT f g n' p)) → (∀ σ', fr σ σ' 134 140 → (∀ j, 0 ≤ j → j < cntF f 40 0 0 → σ' 134 j = (thS f m g tk n' nx).1 j) → K none (T0 n) σ') → Rn 99 39 [some (vR 133), some (vI nx), some (vI n'), u] [] (T0 n) σ K := by
  intro m
  induction m with
  | zero =>
    intro σ g tk n' nx u hm h _ _ _ _ _ _
    have := iT_n hi.1 h
    have := cntF_in hi.1 40 0 0 (by omega) (by omega)
    omega
  | succ m ih =>
    intro σ g tk n' nx u hm h hr q0 q1 q2 q3 hK
    have hn := iT_n hi.1 h
    have cl := cntF_in hi.1 40 0 0 (by omega) (by omega)
    have h3 := h.2.2.1
    rw [s99_39]
    unfold thS at hK
    by_cases e : nx = -1
    · simp only [if_pos e] at hK
      have en := hn.2.1 e
      have := hK σ fr_rfl (fun j a b => q1 j a (by omega))
      simp only [s99_40, s99_41, s99_44, s99_47, s99_141, sx_push, tf, List.length_cons, List.length_nil, Option.some.injEq, exists_eq_left', Nat.reduceAdd, Nat.reduceLeDiff, true_and, and_true, true_or, or_true, Int.zero_add, Nat.zero_le, eq_self, ne_eq, not_true_eq_false, not_false_eq_true, false_implies, true_implies, implies_true, b2i_0, b2i_1, b2i_01, up_sc, sc_at, sc_sc, ite_true, ite_false, if_true, if_false, Nat.reduceEqDiff, reduceIte, q0]
      repeat' (first | intro _ | refine And.intro ?_ ?_)
      all_goals first | omega | exact this
    · simp only [if_neg e] at hK
      have hs := iT_s h e
      have nxr : (0 ≤ nx ∧ nx < 40) ∧ f nx = 1 ∧ tk nx ≠ 1 := by
        rcases h.2.2.2.2 with z | z
        · exact absurd z.1 e
        · exact z
      have ln := hn.2.2 e
      have x49' := fun K => x49 (n := n) (σ := σ) (K := K) isP7 hr (p := nx)
      rw [b2i_t ⟨nxr.1, nxr.2.1⟩] at x49'
      simp only [s99_40, s99_41, s99_44, s99_47, s99_50, s99_51, s99_53, s99_56, s99_57, s99_60, s99_61, s99_64, s99_67, s99_68, s99_71, s99_72, s99_73, s99_74, s99_75, s99_78, s99_79, s99_80, s99_81, s99_82, Int.reduceToNat, Int.reducePow, Nat.reducePow, Int.reduceLE, Int.reduceLT, Int.reduceNeg, Int.reduceEq, Int.reduceNe, Int.reduceAdd, Int.reduceSub, Int.reduceMul, and_self, sx_push, tf, List.length_cons, List.length_nil, Option.some.injEq, exists_eq_left', Nat.reduceAdd, Nat.reduceLeDiff, true_and, and_true, true_or, or_true, Int.zero_add, Nat.zero_le, eq_self, ne_eq, not_true_eq_false, not_false_eq_true, false_implies, true_implies, implies_true, b2i_0, b2i_1, b2i_01, up_sc, sc_at, sc_sc, ite_true, ite_false, if_true, if_false, Nat.reduceEqDiff, reduceIte, q0, x49']
      repeat' (first | intro _ | refine And.intro ?_ ?_)
      all_goals first | omega | contradiction | skip
      have f1 : fr σ (sc (sc σ 134 (up1 (σ 134) n' nx)) 140 (up1 (σ 140) nx 1)) 134 140 := fr_sc (fr_sc fr_rfl (by omega) (by omega)) (by omega) (by omega)
      have g134 : ∀ j, 0 ≤ j → j < n' + 1 → (sc (sc σ 134 (up1 (σ 134) n' nx)) 140 (up1 (σ 140) nx 1)) 134 j = up1 g n' nx j := fun j a b => by
        simp only [sc_at, Nat.reduceEqDiff, reduceIte]
        unfold up1
        split
        · rfl
        · exact q1 j a (by omega)
      have g140 : ∀ p, 0 ≤ p → p < 40 → (sc (sc σ 134 (up1 (σ 134) n' nx)) 140 (up1 (σ 140) nx 1)) 140 p = up1 tk nx 1 p := fun p p0 p1 => by
        simp only [sc_at, Nat.reduceEqDiff, reduceIte]
        unfold up1
        split
        · rfl
        · exact q2 p p0 p1
      have g137 : (sc (sc σ 134 (up1 (σ 134) n' nx)) 140 (up1 (σ 140) nx 1)) 137 = σ 137 := by simp [sc_at]
      generalize sc (sc σ 134 (up1 (σ 134) n' nx)) 140 (up1 (σ 140) nx 1) = σ1 at *
      have hr1 : rL σ1 7 f := rL_fr f1 (by omega) hr
      have main : Rn 99 130 [some (vR 133), some (vI nx), some (vI n'), some (vI 40)] [] (T0 n) (sc σ1 137 (mnF f (σ1 137) nx 40)) K := by
        have hr2 : rL (sc σ1 137 (mnF f (σ1 137) nx 40)) 7 f := rL_k hr1 (fun k hk => by rw [sc_at, if_neg (by omega)])
        have l137 : ∀ p, 0 ≤ p → p < 40 → f p = 1 → (sc σ1 137 (mnF f (σ1 137) nx 40)) 137 p = lsT f (up1 g n' nx) (n' + 1) p := fun p p0 p1 hp => by
          simp only [sc_at, reduceIte]
          unfold mnF
          rw [if_pos ⟨⟨p0, p1⟩, hp⟩, g137]
          exact lsT_s hi.2.1 h3 nxr.1 p0 p1 (fun j a b => (h.2.2.2.1 j a b).1) _ (q3 p p0 p1 hp)
        have x100' := fun K => x100 (n := n) (K := K) (g := up1 g n' nx) (tk := up1 tk nx 1) (m' := n' + 1) hr2 hi.1 (fun p p0 p1 => ⟨(hs.1 p p0 p1).1, by simp only [sc_at, Nat.reduceEqDiff, reduceIte]; exact g140 p p0 p1⟩) l137
        simp only [s99_130, s99_131, s99_134, s99_135, s99_138, sx_push, tf, List.length_cons, List.length_nil, Option.some.injEq, exists_eq_left', Nat.reduceAdd, Nat.reduceLeDiff, true_and, and_true, true_or, or_true, Int.zero_add, Nat.zero_le, eq_self, ne_eq, not_true_eq_false, not_false_eq_true, false_implies, true_implies, implies_true, b2i_0, b2i_1, b2i_01, up_sc, sc_at, sc_sc, ite_true, ite_false, if_true, if_false, Nat.reduceEqDiff, reduceIte, x100']
        refine ⟨by omega, ih _ (up1 g n' nx) (up1 tk nx 1) (n' + 1) (nxT f (up1 g n' nx) (up1 tk nx 1) (n' + 1)) _ (by omega) hs hr2 ?_ (fun j a b => ?_) (fun p p0 p1 => ?_) (fun p p0 p1 hp => Or.inr ⟨by omega, l137 p p0 p1 hp⟩) (fun σ' a1 a2 => hK σ' (fr_tr (fr_sc f1 (by omega) (by omega)) a1) a2)⟩
        · rw [sc_at, if_neg (by omega), f1 7 (by omega)]; exact q0
        · simp only [sc_at, Nat.reduceEqDiff, reduceIte]; exact g134 j a b
        · simp only [sc_at, Nat.reduceEqDiff, reduceIte]; exact g140 p p0 p1
      have := x99i hr1 hi.1 hi.2.1 nxr.1.1 nxr.1.2 nxr.2.1 (i' := n') 40 0 (by omega) (by omega) main
      rw [mnF_0, sc_id] at this
      exact this
theorem x99a {nx : Int} : ∀ (k : Nat) (i : Int), i + k = 40 → 0 ≤ i → Rn 99 37 [some (vR 133), some (vI nx), some (vI 40), none] [] (T0 n) (sc (sc σ 137 (cpF (fun _ => 2147483647) (σ 137) 40)) 140 (cpF (fun _ => 0) (σ 140) 40)) K → Rn 99 10 [some (vR 133), some (vI nx), some (vI i), none] [] (T0 n) (sc (sc σ 137 (cpF (fun _ => 2147483647) (σ 137) i)) 140 (cpF (fun _ => 0) (σ 140) i)) K := by
  intro k
  induction k with
  | zero =>
    intro i hi h0 hK
    obtain rfl : i = 40 := by omega
    rw [s99_10]
    simp only [s99_11, s99_13, sx_push, tf, List.length_cons, List.length_nil, Option.some.injEq, exists_eq_left', Nat.reduceAdd, Nat.reduceLeDiff, true_and, and_true, true_or, or_true, Int.zero_add, Nat.zero_le, eq_self, ne_eq, not_true_eq_false, not_false_eq_true, false_implies, true_implies, implies_true, b2i_0, b2i_1, b2i_01, up_sc, sc_at, sc_sc, ite_true, ite_false, if_true, if_false, Nat.reduceEqDiff, reduceIte]
    repeat' (first | intro _ | refine And.intro ?_ ?_)
    all_goals first | exact hK | omega
  | succ k ih =>
    intro i hi h0 hK
    have cm : ∀ (σ : sxS) (g h : Int → Int), sc (sc σ 140 g) 137 h = sc (sc σ 137 h) 140 g := fun σ g h => sc_comm σ g h (by decide)
    rw [s99_10]
    simp only [s99_11, s99_13, s99_16, s99_17, s99_20, s99_21, s99_22, s99_23, s99_24, s99_27, s99_28, s99_30, s99_31, s99_34, sx_push, tf, List.length_cons, List.length_nil, Option.some.injEq, exists_eq_left', Nat.reduceAdd, Nat.reduceLeDiff, true_and, and_true, true_or, or_true, Int.zero_add, Nat.zero_le, eq_self, ne_eq, not_true_eq_false, not_false_eq_true, false_implies, true_implies, implies_true, b2i_0, b2i_1, b2i_01, up_sc, sc_at, sc_sc, ite_true, ite_false, if_true, if_false, Nat.reduceEqDiff, reduceIte, cm, cpc_s h0]
    repeat' (first | intro _ | refine And.intro ?_ ?_)
    all_goals first | omega | exact ih _ (by omega) (by omega) hK
theorem x99 (hi : invF f) (hr : rL σ 7 f) (h5 : σ 7 5 = rootF f 40 0) (h6 : σ 7 6 = cntF f 40 0 0) (hK : ∀ σ', fr σ σ' 134 140 → (∀ j, 0 ≤ j → j < cntF f 40 0 0 → σ' 134 j = (TH f).1 j) → K none (T0 n) σ') : Rn 99 0 [some (vR 133), none, none, none] [] (T0 n) σ K := by
  simp only [s99_0, s99_1, s99_4, s99_7, s99_8, s99_9, sx_push, tf, List.length_cons, List.length_nil, Option.some.injEq, exists_eq_left', Nat.reduceAdd, Nat.reduceLeDiff, true_and, and_true, true_or, or_true, Int.zero_add, Nat.zero_le, eq_self, ne_eq, not_true_eq_false, not_false_eq_true, false_implies, true_implies, implies_true, b2i_0, b2i_1, b2i_01, up_sc, sc_at, sc_sc, ite_true, ite_false, if_true, if_false, Nat.reduceEqDiff, reduceIte, h5]
  have f1 : fr σ (sc (sc σ 137 (cpF (fun _ => 2147483647) (σ 137) 40)) 140 (cpF (fun _ => 0) (σ 140) 40)) 134 140 := fr_sc (fr_sc fr_rfl (by omega) (by omega)) (by omega) (by omega)
  have main : Rn 99 37 [some (vR 133), some (vI (rootF f 40 0)), some (vI 40), none] [] (T0 n) (sc (sc σ 137 (cpF (fun _ => 2147483647) (σ 137) 40)) 140 (cpF (fun _ => 0) (σ 140) 40)) K := by
    simp only [s99_37, s99_38, sx_push, tf, List.length_cons, List.length_nil, Option.some.injEq, exists_eq_left', Nat.reduceAdd, Nat.reduceLeDiff, true_and, and_true, true_or, or_true, Int.zero_add, Nat.zero_le, eq_self, ne_eq, not_true_eq_false, not_false_eq_true, false_implies, true_implies, implies_true, b2i_0, b2i_1, b2i_01, up_sc, sc_at, sc_sc, ite_true, ite_false, if_true, if_false, Nat.reduceEqDiff, reduceIte]
    refine x99l hi 41 _ (fun _ => 0) (fun _ => 0) 0 _ _ (by omega) (iT_0 hi) (rL_fr f1 (by omega) hr) (by rw [f1 7 (by omega)]; exact h6) (fun j a b => by omega) (fun p p0 p1 => ?_) (fun p p0 p1 hp => Or.inl ⟨rfl, ?_⟩) (fun σ' a1 a2 => hK σ' (fr_tr f1 a1) a2)
    · simp only [sc_at, reduceIte]; unfold cpF; rw [if_pos ⟨p0, p1⟩]
    · simp only [sc_at, Nat.reduceEqDiff, reduceIte]; unfold cpF; rw [if_pos ⟨p0, p1⟩]
  have := x99a (σ := σ) 40 0 (by omega) (by omega) main
  rw [cpF_0, cpF_0, sc_id, sc_id] at this
  exact this
theorem Rel_w2 {σ σ' σ2 : sxS} (h : Rel c σ) (h1 : fr σ σ' 134 140) (h2 : ∀ k, k ≠ 162 → k ≠ 163 → σ2 k = σ' k) : Rel (c + 1) σ2 ∧ σ2 0 = σ 0 := by
  have q : ∀ k, (k < 134 ∨ 140 < k) → k ≠ 162 → k ≠ 163 → σ2 k = σ k := fun k a b d => by rw [h2 k b d, h1 k a]
  refine ⟨Rel_w (Rel_cg h (fun k hk => q k (by unfold scr at hk; omega) (by unfold scr at hk; omega) (by unfold scr at hk; omega)) (by rw [q 149 (by omega) (by omega) (by omega)]; exact f149_rfl) (by rw [q 4 (by omega) (by omega) (by omega)]; exact ⟨rfl, rfl⟩) (q 126 (by omega) (by omega) (by omega))) (by omega), q 0 (by omega) (by omega) (by omega)⟩
theorem x238 (hi : invF (σ 150)) {k : Int} (hK : ∀ σ', (∀ k, k ≠ 162 → k ≠ 163 → σ' k = σ k) → K (some (vI (if 0 ≤ k ∧ k < cntF (σ 150) 40 0 0 then (TH (σ 150)).1 k else -1))) (T0 n) σ') : Rn 238 0 [some (vR 149), some (vI k), none] [] (T0 n) σ K := by
  have cl := cntF_in hi.1 40 0 0 (by omega) (by omega)
  simp only [s238_0, s238_1, sx_push, tf, List.length_cons, List.length_nil, Option.some.injEq, exists_eq_left', Nat.reduceAdd, Nat.reduceLeDiff, true_and, and_true, true_or, or_true, Int.zero_add, Nat.zero_le, eq_self, ne_eq, not_true_eq_false, not_false_eq_true, false_implies, true_implies, implies_true, b2i_0, b2i_1, b2i_01, up_sc, sc_at, sc_sc, ite_true, ite_false, if_true, if_false, Nat.reduceEqDiff, reduceIte]
  refine x239 hi (fun σ' a1 a2 => ?_)
  have hK := hK σ' a1
  by_cases e : 0 ≤ k ∧ k < cntF (σ 150) 40 0 0
  · rw [if_pos e] at hK
    simp only [s238_4, s238_5, s238_6, s238_7, s238_8, s238_9, s238_10, s238_13, s238_16, s238_17, s238_20, s238_21, s238_22, s238_25, s238_26, sx_push, tf, List.length_cons, List.length_nil, Option.some.injEq, exists_eq_left', Nat.reduceAdd, Nat.reduceLeDiff, true_and, and_true, true_or, or_true, Int.zero_add, Nat.zero_le, eq_self, ne_eq, not_true_eq_false, not_false_eq_true, false_implies, true_implies, implies_true, b2i_0, b2i_1, b2i_01, up_sc, sc_at, sc_sc, ite_true, ite_false, if_true, if_false, Nat.reduceEqDiff, reduceIte, x185, a2 k e.1 e.2]
    repeat' (first | intro _ | refine And.intro ?_ ?_)
    all_goals first | exact hK | omega
  · rw [if_neg e] at hK
    simp only [s238_4, s238_5, s238_6, s238_7, s238_8, s238_9, s238_10, s238_13, s238_16, s238_17, s238_20, s238_21, s238_22, s238_25, s238_26, sx_push, tf, List.length_cons, List.length_nil, Option.some.injEq, exists_eq_left', Nat.reduceAdd, Nat.reduceLeDiff, true_and, and_true, true_or, or_true, Int.zero_add, Nat.zero_le, eq_self, ne_eq, not_true_eq_false, not_false_eq_true, false_implies, true_implies, implies_true, b2i_0, b2i_1, b2i_01, up_sc, sc_at, sc_sc, ite_true, ite_false, if_true, if_false, Nat.reduceEqDiff, reduceIte, x185]
    repeat' (first | intro _ | refine And.intro ?_ ?_)
    all_goals first | exact hK | omega
theorem cl25 {k : Int} : call2 n c 111 238 [some (vR 1), some (vI k)] [some (vR 149), some (vI k), none] := fun σ h => by
  have h' := h
  obtain ⟨hP, hO, hM, hH, hT, hR, hS, hF, hQ, hV, hI, hG, hW⟩ := h'
  have cl := cntF_in hO.1.1 40 0 0 (by omega) (by omega)
  by_cases e : 0 ≤ k ∧ k < cntF (σ 150) 40 0 0
  · simp only [s111_0, s111_1, s111_4, s111_5, s111_6, s111_9, s111_12, s111_15, s111_16, s111_17, s111_18, s111_21, sx_push, tf, List.length_cons, List.length_nil, Option.some.injEq, exists_eq_left', Nat.reduceAdd, Nat.reduceLeDiff, true_and, and_true, true_or, or_true, Int.zero_add, Nat.zero_le, eq_self, ne_eq, not_true_eq_false, not_false_eq_true, false_implies, true_implies, implies_true, b2i_0, b2i_1, b2i_01, up_sc, sc_at, sc_sc, ite_true, ite_false, if_true, if_false, Nat.reduceEqDiff, reduceIte, hP.1.2.2.2]
    repeat' (first | intro _ | refine And.intro ?_ ?_)
    all_goals first | omega | skip
    refine x99 hO.1 hP.1.1 hP.1.2.2.1 hP.1.2.2.2 (fun σ1 a1 a2 => ?_)
    have g150 : σ1 150 = σ 150 := a1 150 (by omega)
    simp only [s111_24, s111_25, s111_28, s111_31, s111_32, s111_33, sx_push, tf, List.length_cons, List.length_nil, Option.some.injEq, exists_eq_left', Nat.reduceAdd, Nat.reduceLeDiff, true_and, and_true, true_or, or_true, Int.zero_add, Nat.zero_le, eq_self, ne_eq, not_true_eq_false, not_false_eq_true, false_implies, true_implies, implies_true, b2i_0, b2i_1, b2i_01, up_sc, sc_at, sc_sc, ite_true, ite_false, if_true, if_false, Nat.reduceEqDiff, reduceIte, a2 k e.1 e.2]
    refine ⟨by omega, _, rfl, ?_⟩
    refine x238 (by rw [g150]; exact hO.1) (fun σ2 b1 => ?_)
    rw [g150, if_pos e]
    exact ⟨rfl, rfl, Rel_w2 h a1 b1⟩
  · have x111f : ∀ K : Option sxV → sxT → sxS → Prop, K (some (vI (-1))) (T0 n) σ → Rn 111 0 [some (vR 1), some (vI k)] [] (T0 n) σ K := fun K hK => by
      simp only [s111_0, s111_1, s111_4, s111_5, s111_6, s111_9, s111_12, s111_15, s111_16, sx_push, tf, List.length_cons, List.length_nil, Option.some.injEq, exists_eq_left', Nat.reduceAdd, Nat.reduceLeDiff, true_and, and_true, true_or, or_true, Int.zero_add, Nat.zero_le, eq_self, ne_eq, not_true_eq_false, not_false_eq_true, false_implies, true_implies, implies_true, b2i_0, b2i_1, b2i_01, up_sc, sc_at, sc_sc, ite_true, ite_false, if_true, if_false, Nat.reduceEqDiff, reduceIte, hP.1.2.2.2]
      repeat' (first | intro _ | refine And.intro ?_ ?_)
      all_goals first | exact hK | omega
    refine x111f _ ⟨rfl, _, rfl, ?_⟩
    refine x238 hO.1 (fun σ2 b1 => ?_)
    rw [if_neg e]
    exact ⟨rfl, rfl, Rel_w2 h fr_rfl b1⟩
end T2
