/-! points of the class: filled, cleared, copied, kept, given back, compared -/
theorem cpc_s {h : Int → Int} {v i : Int} (hi : 0 ≤ i) : up1 (cpF (fun _ => v) h i) i v = cpF (fun _ => v) h (i + 1) := cpF_s (g := fun _ => v) hi
theorem cpy_sc (σ : sxS) (a b : Nat) : sx_cpy σ a 0 b 0 40 = sc σ b (cpF (σ a) (σ b) 40) := by
  funext k j
  unfold sx_cpy sc cpF
  by_cases h : k = b
  · subst h
    by_cases h2 : 0 ≤ j ∧ j < 40
    · rw [if_pos ⟨rfl, h2.1, by omega⟩, if_pos rfl, if_pos h2, show (0 : Int) + (j - 0) = j by omega]
    · rw [if_neg (fun z => h2 ⟨z.2.1, by omega⟩), if_pos rfl, if_neg h2]
  · rw [if_neg (fun z => h z.1), if_neg h]
theorem oq2 {o q : Nat} (h : o + 4 < q ∨ q + 4 < o) : ((q = o) = False) ∧ ((q = o + 1) = False) ∧ ((q = o + 2) = False) ∧ ((q = o + 3) = False) ∧ ((q = o + 4) = False) ∧ ((q + 1 = o) = False) ∧ ((q + 2 = o) = False) ∧ ((q + 3 = o) = False) ∧ ((q + 4 = o) = False) ∧ ((q + 1 = o + 1) = False) ∧ ((q + 1 = o + 2) = False) ∧ ((q + 1 = o + 3) = False) ∧ ((q + 1 = o + 4) = False) ∧ ((q + 2 = o + 1) = False) ∧ ((q + 2 = o + 2) = False) ∧ ((q + 2 = o + 3) = False) ∧ ((q + 2 = o + 4) = False) ∧ ((q + 3 = o + 1) = False) ∧ ((q + 3 = o + 2) = False) ∧ ((q + 3 = o + 3) = False) ∧ ((q + 3 = o + 4) = False) ∧ ((q + 4 = o + 1) = False) ∧ ((q + 4 = o + 2) = False) ∧ ((q + 4 = o + 3) = False) ∧ ((q + 4 = o + 4) = False) := by
  refine ⟨?_, ?_, ?_, ?_, ?_, ?_, ?_, ?_, ?_, ?_, ?_, ?_, ?_, ?_, ?_, ?_, ?_, ?_, ?_, ?_, ?_, ?_, ?_, ?_, ?_⟩ <;> exact eq_false (by omega)
/-- points o hold what points q held -/
def cpd (σ σ' : sxS) (o q : Nat) : Prop := (∀ j, 0 ≤ j → j < 40 → σ' (o + 1) j = σ (q + 1) j ∧ σ' (o + 2) j = σ (q + 2) j ∧ σ' (o + 3) j = σ (q + 3) j ∧ σ' (o + 4) j = σ (q + 4) j) ∧ σ' o 4 = σ q 4 ∧ σ' o 5 = σ q 5 ∧ σ' o 6 = σ q 6
section C7
variable {n : Nat} {σ : sxS} {K : Option sxV → sxT → sxS → Prop} {o q : Nat} {f : Int → Int}
theorem x5l {T : sxT} {a : Nat} {v : Int} (hk : sx_kd T a = 20) (hl : sx_ln T a = 40) : ∀ (k : Nat) (i : Int), i + k = 40 → 0 ≤ i → K none T (sc σ a (cpF (fun _ => v) (σ a) 40)) → Rn 5 5 [some (vR a), some (vI v), some (vI i), some (vI 40)] [] T (sc σ a (cpF (fun _ => v) (σ a) i)) K := by
  intro k
  induction k with
  | zero =>
    intro i hi h0 hK
    obtain rfl : i = 40 := by omega
    rw [s5_5]
    simp only [s5_0, s5_1, s5_2, s5_3, s5_4, s5_6, s5_7, s5_10, s5_11, s5_12, s5_13, s5_14, s5_17, s5_20, sx_push, tf, List.length_cons, List.length_nil, Option.some.injEq, exists_eq_left', Nat.reduceAdd, Nat.reduceLeDiff, true_and, and_true, true_or, or_true, Int.zero_add, Nat.zero_le, eq_self, ne_eq, not_true_eq_false, not_false_eq_true, false_implies, true_implies, implies_true, b2i_0, b2i_1, b2i_01, up_sc, sc_at, sc_sc, ite_true, ite_false, if_true, if_false, Nat.reduceEqDiff, reduceIte]
    repeat' (first | intro _ | refine And.intro ?_ ?_)
    all_goals first | exact hK | omega
  | succ k ih =>
    intro i hi h0 hK
    rw [s5_5]
    simp only [s5_0, s5_1, s5_2, s5_3, s5_4, s5_6, s5_7, s5_10, s5_11, s5_12, s5_13, s5_14, s5_17, s5_20, sx_push, tf, List.length_cons, List.length_nil, Option.some.injEq, exists_eq_left', Nat.reduceAdd, Nat.reduceLeDiff, true_and, and_true, true_or, or_true, Int.zero_add, Nat.zero_le, eq_self, ne_eq, not_true_eq_false, not_false_eq_true, false_implies, true_implies, implies_true, b2i_0, b2i_1, b2i_01, up_sc, sc_at, sc_sc, ite_true, ite_false, if_true, if_false, Nat.reduceEqDiff, reduceIte, hk, hl, cpc_s h0]
    repeat' (first | intro _ | refine And.intro ?_ ?_)
    all_goals first | omega | exact ih _ (by omega) (by omega) hK
theorem x5 {T : sxT} {a : Nat} {v : Int} (hk : sx_kd T a = 20) (hl : sx_ln T a = 40) : Rn 5 0 [some (vR a), some (vI v), none, none] [] T σ K ↔ K none T (sc σ a (cpF (fun _ => v) (σ a) 40)) := by
  refine Rn_iff fun K hK => ?_
  simp only [s5_0, s5_1, s5_2, s5_3, s5_4, s5_6, s5_7, s5_10, s5_11, s5_12, s5_13, s5_14, s5_17, s5_20, sx_push, tf, List.length_cons, List.length_nil, Option.some.injEq, exists_eq_left', Nat.reduceAdd, Nat.reduceLeDiff, true_and, and_true, true_or, or_true, Int.zero_add, Nat.zero_le, eq_self, ne_eq, not_true_eq_false, not_false_eq_true, false_implies, true_implies, implies_true, b2i_0, b2i_1, b2i_01, up_sc, sc_at, sc_sc, ite_true, ite_false, if_true, if_false, Nat.reduceEqDiff, reduceIte, hk, hl]
  have := x5l (σ := σ) (v := v) hk hl 40 0 (by omega) (by omega) hK
  rw [cpF_0, sc_id] at this
  exact this
theorem x35 (ho : isP o) (hK : ∀ σ', fr σ σ' o (o + 4) → (∀ j, 0 ≤ j → j < 40 → σ' (o + 2) j = -1 ∧ σ' (o + 3) j = -1 ∧ σ' (o + 4) j = 0) → σ' o 4 = -1 → σ' o 5 = -1 → σ' o 6 = 0 → K none (T0 n) σ') : Rn 35 0 [some (vR o)] [] (T0 n) σ K := by
  have t := tp (n := n) ho
  simp only [s35_0, s35_1, s35_4, s35_5, s35_8, s35_9, s35_12, s35_13, s35_16, s35_17, s35_20, s35_21, s35_24, s35_25, s35_26, s35_29, s35_30, s35_31, s35_34, s35_35, s35_36, s35_39, sx_push, tf, List.length_cons, List.length_nil, Option.some.injEq, exists_eq_left', Nat.reduceAdd, Nat.reduceLeDiff, true_and, and_true, true_or, or_true, Int.zero_add, Nat.zero_le, eq_self, ne_eq, not_true_eq_false, not_false_eq_true, false_implies, true_implies, implies_true, b2i_0, b2i_1, b2i_01, up_sc, sc_at, sc_sc, ite_true, ite_false, if_true, if_false, Nat.reduceEqDiff, reduceIte, tp ho, oq o, x5 (T := T0 n) (a := o + 2) (by simp only [tp ho]) (by simp only [tp ho]), x5 (T := T0 n) (a := o + 3) (by simp only [tp ho]) (by simp only [tp ho]), x5 (T := T0 n) (a := o + 4) (by simp only [tp ho]) (by simp only [tp ho])]
  repeat' (first | intro _ | refine And.intro ?_ ?_)
  all_goals first | omega | skip
  refine hK _ ?_ ?_ ?_ ?_ ?_
  · exact fr_sc (fr_sc (fr_sc (fr_sc fr_rfl (by omega) (by omega)) (by omega) (by omega)) (by omega) (by omega)) (by omega) (by omega)
  · intro j j0 j1
    simp [sc_at, cpF, j0, j1]
  all_goals simp [sc_at, up1]
theorem x125 (ho : isP o) (hq : isP q) (hd : o + 4 < q ∨ q + 4 < o) (hK : ∀ σ', fr σ σ' o (o + 4) → cpd σ σ' o q → K none (T0 n) σ') : Rn 125 0 [some (vR o), some (vR q)] [] (T0 n) σ K := by
  simp only [s125_0, s125_1, s125_4, s125_5, s125_6, s125_9, s125_10, s125_12, s125_15, s125_16, s125_19, s125_20, s125_21, s125_24, s125_25, s125_27, s125_30, s125_31, s125_34, s125_35, s125_36, s125_39, s125_40, s125_42, s125_45, s125_46, s125_49, s125_50, s125_51, s125_54, s125_55, s125_57, s125_60, s125_61, s125_62, s125_65, s125_68, s125_69, s125_70, s125_73, s125_76, s125_77, s125_78, s125_81, s125_84, sx_push, tf, List.length_cons, List.length_nil, Option.some.injEq, exists_eq_left', Nat.reduceAdd, Nat.reduceLeDiff, true_and, and_true, true_or, or_true, Int.zero_add, Nat.zero_le, eq_self, ne_eq, not_true_eq_false, not_false_eq_true, false_implies, true_implies, implies_true, b2i_0, b2i_1, b2i_01, up_sc, sc_at, sc_sc, ite_true, ite_false, if_true, if_false, Nat.reduceEqDiff, reduceIte, tp ho, tp hq, oq o, oq2 hd, cpy_sc]
  repeat' (first | intro _ | refine And.intro ?_ ?_)
  all_goals first | omega | skip
  refine hK _ ?_ ⟨?_, ?_, ?_, ?_⟩
  · exact fr_sc (fr_sc (fr_sc (fr_sc (fr_sc fr_rfl (by omega) (by omega)) (by omega) (by omega)) (by omega) (by omega)) (by omega) (by omega)) (by omega) (by omega)
  · intro j j0 j1
    simp [sc_at, cpF, j0, j1]
  all_goals simp [sc_at, up1]
theorem x142 (h0 : 0 ≤ σ 17 1) (h1 : σ 17 1 < 20) (hh : inI (σ 17 2 + 1)) (hK : ∀ σ', (∀ k, k ≠ 17 → (k < 19 + 5 * (σ 17 1).toNat ∨ 19 + 5 * (σ 17 1).toNat + 4 < k) → σ' k = σ k) → cpd σ σ' (19 + 5 * (σ 17 1).toNat) 7 → σ' 17 1 = (if σ 17 1 + 1 < 20 then σ 17 1 + 1 else 0) → σ' 17 2 = min 20 (σ 17 2 + 1) → K none (T0 n) σ') : Rn 142 0 [some (vR 17), some (vR 7)] [] (T0 n) σ K := by
  have hi : (σ 17 1).toNat < 20 := by omega
  have ip := isPk hi
  simp only [s142_0, s142_1, s142_4, s142_5, s142_8, s142_9, s142_10, sx_push, tf, List.length_cons, List.length_nil, Option.some.injEq, exists_eq_left', Nat.reduceAdd, Nat.reduceLeDiff, true_and, and_true, true_or, or_true, Int.zero_add, Nat.zero_le, eq_self, ne_eq, not_true_eq_false, not_false_eq_true, false_implies, true_implies, implies_true, b2i_0, b2i_1, b2i_01, up_sc, sc_at, sc_sc, ite_true, ite_false, if_true, if_false, Nat.reduceEqDiff, reduceIte, tk hi, tp ip]
  repeat' (first | intro _ | refine And.intro ?_ ?_)
  all_goals first | omega | skip
  refine x125 ip isP7 (Or.inr (by omega)) (fun σ' e1 e2 => ?_)
  have e17 : σ' 17 = σ 17 := e1 17 (by omega)
  have u2 : ∀ v, up1 (σ 17) 1 v 2 = σ 17 2 := fun v => up1_n (by decide)
  simp only [s142_13, s142_14, s142_15, s142_18, s142_19, s142_20, s142_22, s142_25, s142_26, s142_29, s142_30, s142_31, s142_34, s142_35, s142_38, s142_39, s142_41, s142_42, s142_45, s142_46, s142_47, s142_50, s142_53, sx_push, tf, List.length_cons, List.length_nil, Option.some.injEq, exists_eq_left', Nat.reduceAdd, Nat.reduceLeDiff, true_and, and_true, true_or, or_true, Int.zero_add, Nat.zero_le, eq_self, ne_eq, not_true_eq_false, not_false_eq_true, false_implies, true_implies, implies_true, b2i_0, b2i_1, b2i_01, up_sc, sc_at, sc_sc, ite_true, ite_false, if_true, if_false, Nat.reduceEqDiff, reduceIte, e17, u2]
  repeat' (first | intro _ | refine And.intro ?_ ?_)
  all_goals first | omega | skip
  · refine hK _ (fun k k1 k2 => ?_) ?_ ?_ ?_
    · rw [sc_at, if_neg k1]; exact e1 k k2
    · simp only [cpd, sc_at]; rw [if_neg (by omega), if_neg (by omega), if_neg (by omega), if_neg (by omega), if_neg (by omega)]; exact e2
    · rw [if_neg (by omega)]; simp [sc_at, up1]
    · simp [sc_at, up1]
  · refine hK _ (fun k k1 k2 => ?_) ?_ ?_ ?_
    · rw [sc_at, if_neg k1]; exact e1 k k2
    · simp only [cpd, sc_at]; rw [if_neg (by omega), if_neg (by omega), if_neg (by omega), if_neg (by omega), if_neg (by omega)]; exact e2
    · rw [if_pos (by omega)]; simp [sc_at, up1]
    · simp [sc_at, up1]
/-- where the last act was kept -/
def lastK (i : Int) : Int := if 0 < i then i - 1 else 19
theorem x153 (h0 : 0 ≤ σ 17 1) (h1 : σ 17 1 < 20) (hh : 0 < σ 17 2) (hh' : σ 17 2 ≤ 20) (hK : ∀ σ', (∀ k, k ≠ 17 → (k < 7 ∨ 11 < k) → σ' k = σ k) → cpd σ σ' 7 (19 + 5 * (lastK (σ 17 1)).toNat) → σ' 17 1 = lastK (σ 17 1) → σ' 17 2 = σ 17 2 - 1 → K none (T0 n) σ') : Rn 153 0 [some (vR 17), some (vR 7)] [] (T0 n) σ K := by
  have hl : 0 ≤ lastK (σ 17 1) ∧ lastK (σ 17 1) < 20 := by unfold lastK; split <;> omega
  have hi : (lastK (σ 17 1)).toNat < 20 := by omega
  have ip := isPk hi
  have main : Rn 153 29 [some (vR 17), some (vR 7)] [] (T0 n) (sc σ 17 (up1 (σ 17) 1 (lastK (σ 17 1)))) K := by
    have u : up1 (σ 17) 1 (lastK (σ 17 1)) 1 = lastK (σ 17 1) := up1_s _ _ _
    simp only [s153_29, s153_30, s153_31, s153_34, s153_35, s153_38, s153_39, sx_push, tf, List.length_cons, List.length_nil, Option.some.injEq, exists_eq_left', Nat.reduceAdd, Nat.reduceLeDiff, true_and, and_true, true_or, or_true, Int.zero_add, Nat.zero_le, eq_self, ne_eq, not_true_eq_false, not_false_eq_true, false_implies, true_implies, implies_true, b2i_0, b2i_1, b2i_01, up_sc, sc_at, sc_sc, ite_true, ite_false, if_true, if_false, Nat.reduceEqDiff, reduceIte, u, tk hi, tp ip]
    repeat' (first | intro _ | refine And.intro ?_ ?_)
    all_goals first | omega | skip
    refine x125 isP7 ip (Or.inl (by omega)) (fun σ' e1 e2 => ?_)
    have e17 : σ' 17 = up1 (σ 17) 1 (lastK (σ 17 1)) := by rw [e1 17 (by omega)]; simp [sc_at]
    simp only [s153_42, s153_43, s153_44, s153_47, s153_48, s153_49, s153_52, sx_push, tf, List.length_cons, List.length_nil, Option.some.injEq, exists_eq_left', Nat.reduceAdd, Nat.reduceLeDiff, true_and, and_true, true_or, or_true, Int.zero_add, Nat.zero_le, eq_self, ne_eq, not_true_eq_false, not_false_eq_true, false_implies, true_implies, implies_true, b2i_0, b2i_1, b2i_01, up_sc, sc_at, sc_sc, ite_true, ite_false, if_true, if_false, Nat.reduceEqDiff, reduceIte, e17]
    repeat' (first | intro _ | refine And.intro ?_ ?_)
    all_goals first | (simp [up1]; omega) | omega | skip
    refine hK _ (fun k k1 k2 => ?_) ?_ ?_ ?_
    · rw [sc_at, if_neg k1, e1 k k2, sc_at, if_neg k1]
    · have e2' : cpd σ σ' 7 (19 + 5 * (lastK (σ 17 1)).toNat) := by
        simp only [cpd, sc_at] at e2 ⊢
        rw [if_neg (by omega), if_neg (by omega), if_neg (by omega), if_neg (by omega), if_neg (by omega)] at e2
        exact e2
      simp only [cpd, sc_at, Nat.reduceAdd, Nat.reduceEqDiff, if_false] at e2' ⊢
      exact e2'
    · simp [sc_at, up1]
    · simp [sc_at, up1]
  unfold lastK at main
  by_cases e : 0 < σ 17 1
  · rw [if_pos e] at main
    simp only [s153_0, s153_1, s153_4, s153_7, s153_8, s153_9, s153_12, s153_15, s153_16, s153_19, s153_20, s153_21, s153_24, s153_26, sx_push, tf, List.length_cons, List.length_nil, Option.some.injEq, exists_eq_left', Nat.reduceAdd, Nat.reduceLeDiff, true_and, and_true, true_or, or_true, Int.zero_add, Nat.zero_le, eq_self, ne_eq, not_true_eq_false, not_false_eq_true, false_implies, true_implies, implies_true, b2i_0, b2i_1, b2i_01, up_sc, sc_at, sc_sc, ite_true, ite_false, if_true, if_false, Nat.reduceEqDiff, reduceIte]
    repeat' (first | intro _ | refine And.intro ?_ ?_)
    all_goals first | omega | exact main
  · rw [if_neg e] at main
    simp only [s153_0, s153_1, s153_4, s153_7, s153_8, s153_9, s153_12, s153_15, s153_16, s153_19, s153_20, s153_21, s153_24, s153_26, sx_push, tf, List.length_cons, List.length_nil, Option.some.injEq, exists_eq_left', Nat.reduceAdd, Nat.reduceLeDiff, true_and, and_true, true_or, or_true, Int.zero_add, Nat.zero_le, eq_self, ne_eq, not_true_eq_false, not_false_eq_true, false_implies, true_implies, implies_true, b2i_0, b2i_1, b2i_01, up_sc, sc_at, sc_sc, ite_true, ite_false, if_true, if_false, Nat.reduceEqDiff, reduceIte]
    repeat' (first | intro _ | refine And.intro ?_ ?_)
    all_goals first | omega | exact main
theorem x128l (ho : isP o) (hq : isP q) : ∀ (k : Nat) (p a : Int), p + k = 40 → 0 ≤ p → 0 ≤ a → a ≤ p → K (some (vI (cnt (fun p => decide (0 ≤ σ (o + 2) p ∧ 0 ≤ σ (q + 2) p ∧ σ (o + 2) p ≠ σ (q + 2) p)) k p a))) (T0 n) σ → Rn 128 4 [some (vR o), some (vR q), some (vI a), some (vI p)] [] (T0 n) σ K := by
  intro k
  induction k with
  | zero =>
    intro p a hp h0 ha ha' hK
    rw [s128_4]
    simp only [s128_0, s128_1, s128_2, s128_3, s128_5, s128_7, s128_10, s128_11, s128_14, s128_15, s128_16, s128_19, s128_20, s128_23, s128_24, s128_25, s128_28, s128_29, s128_32, s128_33, s128_34, s128_35, s128_38, s128_39, s128_40, s128_43, s128_46, s128_49, s128_52, s128_53, sx_push, tf, List.length_cons, List.length_nil, Option.some.injEq, exists_eq_left', Nat.reduceAdd, Nat.reduceLeDiff, true_and, and_true, true_or, or_true, Int.zero_add, Nat.zero_le, eq_self, ne_eq, not_true_eq_false, not_false_eq_true, false_implies, true_implies, implies_true, b2i_0, b2i_1, b2i_01, up_sc, sc_at, sc_sc, ite_true, ite_false, if_true, if_false, Nat.reduceEqDiff, reduceIte]
    repeat' (first | intro _ | refine And.intro ?_ ?_)
    all_goals first | exact hK | omega
  | succ k ih =>
    intro p a hp h0 ha ha' hK
    have h1 : p < 40 := by omega
    unfold cnt at hK
    simp only [decide_eq_true_eq] at hK
    rw [s128_4]
    simp only [s128_0, s128_1, s128_2, s128_3, s128_5, s128_7, s128_10, s128_11, s128_14, s128_15, s128_16, s128_19, s128_20, s128_23, s128_24, s128_25, s128_28, s128_29, s128_32, s128_33, s128_34, s128_35, s128_38, s128_39, s128_40, s128_43, s128_46, s128_49, s128_52, s128_53, sx_push, tf, List.length_cons, List.length_nil, Option.some.injEq, exists_eq_left', Nat.reduceAdd, Nat.reduceLeDiff, true_and, and_true, true_or, or_true, Int.zero_add, Nat.zero_le, eq_self, ne_eq, not_true_eq_false, not_false_eq_true, false_implies, true_implies, implies_true, b2i_0, b2i_1, b2i_01, up_sc, sc_at, sc_sc, ite_true, ite_false, if_true, if_false, Nat.reduceEqDiff, reduceIte, tp ho, tp hq, Int.add_zero]
    repeat' (first | intro _ | refine And.intro ?_ ?_)
    all_goals first | omega | (split at hK <;> first | exact hK | omega | exact ih _ _ (by omega) (by omega) (by omega) (by omega) hK)
theorem x128 (ho : isP o) (hq : isP q) : Rn 128 0 [some (vR o), some (vR q), none, none] [] (T0 n) σ K ↔ K (some (vI (cnt (fun p => decide (0 ≤ σ (o + 2) p ∧ 0 ≤ σ (q + 2) p ∧ σ (o + 2) p ≠ σ (q + 2) p)) 40 0 0))) (T0 n) σ := by
  refine Rn_iff fun K hK => ?_
  simp only [s128_0, s128_1, s128_2, s128_3, s128_5, s128_7, s128_10, s128_11, s128_14, s128_15, s128_16, s128_19, s128_20, s128_23, s128_24, s128_25, s128_28, s128_29, s128_32, s128_33, s128_34, s128_35, s128_38, s128_39, s128_40, s128_43, s128_46, s128_49, s128_52, s128_53, sx_push, tf, List.length_cons, List.length_nil, Option.some.injEq, exists_eq_left', Nat.reduceAdd, Nat.reduceLeDiff, true_and, and_true, true_or, or_true, Int.zero_add, Nat.zero_le, eq_self, ne_eq, not_true_eq_false, not_false_eq_true, false_implies, true_implies, implies_true, b2i_0, b2i_1, b2i_01, up_sc, sc_at, sc_sc, ite_true, ite_false, if_true, if_false, Nat.reduceEqDiff, reduceIte]
  exact x128l ho hq 40 0 0 (by omega) (by omega) (by omega) (by omega) hK

theorem x127l (ho : isP o) (hq : isP q) : ∀ (k : Nat) (p a : Int), p + k = 40 → 0 ≤ p → 0 ≤ a → a ≤ p → K (some (vI (cnt (fun p => decide (0 ≤ σ (o + 2) p ∧ 0 ≤ σ (q + 2) p ∧ σ (o + 3) p ≠ σ (q + 3) p)) k p a))) (T0 n) σ → Rn 127 4 [some (vR o), some (vR q), some (vI a), some (vI p)] [] (T0 n) σ K := by
  intro k
  induction k with
  | zero =>
    intro p a hp h0 ha ha' hK
    rw [s127_4]
    simp only [s127_0, s127_1, s127_2, s127_3, s127_5, s127_7, s127_10, s127_11, s127_14, s127_15, s127_16, s127_19, s127_20, s127_23, s127_24, s127_25, s127_28, s127_29, s127_32, s127_33, s127_34, s127_35, s127_38, s127_39, s127_40, s127_43, s127_46, s127_49, s127_52, s127_53, sx_push, tf, List.length_cons, List.length_nil, Option.some.injEq, exists_eq_left', Nat.reduceAdd, Nat.reduceLeDiff, true_and, and_true, true_or, or_true, Int.zero_add, Nat.zero_le, eq_self, ne_eq, not_true_eq_false, not_false_eq_true, false_implies, true_implies, implies_true, b2i_0, b2i_1, b2i_01, up_sc, sc_at, sc_sc, ite_true, ite_false, if_true, if_false, Nat.reduceEqDiff, reduceIte]
    repeat' (first | intro _ | refine And.intro ?_ ?_)
    all_goals first | exact hK | omega
  | succ k ih =>
    intro p a hp h0 ha ha' hK
    have h1 : p < 40 := by omega
    unfold cnt at hK
    simp only [decide_eq_true_eq] at hK
    rw [s127_4]
    simp only [s127_0, s127_1, s127_2, s127_3, s127_5, s127_7, s127_10, s127_11, s127_14, s127_15, s127_16, s127_19, s127_20, s127_23, s127_24, s127_25, s127_28, s127_29, s127_32, s127_33, s127_34, s127_35, s127_38, s127_39, s127_40, s127_43, s127_46, s127_49, s127_52, s127_53, sx_push, tf, List.length_cons, List.length_nil, Option.some.injEq, exists_eq_left', Nat.reduceAdd, Nat.reduceLeDiff, true_and, and_true, true_or, or_true, Int.zero_add, Nat.zero_le, eq_self, ne_eq, not_true_eq_false, not_false_eq_true, false_implies, true_implies, implies_true, b2i_0, b2i_1, b2i_01, up_sc, sc_at, sc_sc, ite_true, ite_false, if_true, if_false, Nat.reduceEqDiff, reduceIte, tp ho, tp hq, Int.add_zero]
    repeat' (first | intro _ | refine And.intro ?_ ?_)
    all_goals first | omega | (split at hK <;> first | exact hK | omega | exact ih _ _ (by omega) (by omega) (by omega) (by omega) hK)
theorem x127 (ho : isP o) (hq : isP q) : Rn 127 0 [some (vR o), some (vR q), none, none] [] (T0 n) σ K ↔ K (some (vI (cnt (fun p => decide (0 ≤ σ (o + 2) p ∧ 0 ≤ σ (q + 2) p ∧ σ (o + 3) p ≠ σ (q + 3) p)) 40 0 0))) (T0 n) σ := by
  refine Rn_iff fun K hK => ?_
  simp only [s127_0, s127_1, s127_2, s127_3, s127_5, s127_7, s127_10, s127_11, s127_14, s127_15, s127_16, s127_19, s127_20, s127_23, s127_24, s127_25, s127_28, s127_29, s127_32, s127_33, s127_34, s127_35, s127_38, s127_39, s127_40, s127_43, s127_46, s127_49, s127_52, s127_53, sx_push, tf, List.length_cons, List.length_nil, Option.some.injEq, exists_eq_left', Nat.reduceAdd, Nat.reduceLeDiff, true_and, and_true, true_or, or_true, Int.zero_add, Nat.zero_le, eq_self, ne_eq, not_true_eq_false, not_false_eq_true, false_implies, true_implies, implies_true, b2i_0, b2i_1, b2i_01, up_sc, sc_at, sc_sc, ite_true, ite_false, if_true, if_false, Nat.reduceEqDiff, reduceIte]
  exact x127l ho hq 40 0 0 (by omega) (by omega) (by omega) (by omega) hK

end C7
