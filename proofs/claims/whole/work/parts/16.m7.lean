/-! the reference: rows copied, refusals, the tape -/
def cpF (g h : Int → Int) (i : Int) : Int → Int := fun j => if 0 ≤ j ∧ j < i then g j else h j
theorem cpF_0 (g h : Int → Int) : cpF g h 0 = h := by
  funext j; unfold cpF; rw [if_neg (by omega)]
theorem cpF_s {g h : Int → Int} {i : Int} (hi : 0 ≤ i) : up1 (cpF g h i) i (g i) = cpF g h (i + 1) := by
  funext j
  unfold up1 cpF
  by_cases e : j = i
  · subst e; rw [if_pos rfl, if_pos (by omega)]
  · rw [if_neg e]
    by_cases z : 0 ≤ j ∧ j < i
    · rw [if_pos z, if_pos (by omega)]
    · rw [if_neg z, if_neg (by omega)]
section M7
variable {n : Nat} {σ : sxS} {K : Option sxV → sxT → sxS → Prop}
theorem x253l : ∀ (k : Nat) (i : Int), i + k = 481 → 0 ≤ i → K none (T0 n) (sc σ 152 (cpF (σ 150) (σ 152) 481)) → Rn 253 2 [some (vR 149), some (vI i)] [] (T0 n) (sc σ 152 (cpF (σ 150) (σ 152) i)) K := by
  intro k
  induction k with
  | zero =>
    intro i hi h0 hK
    obtain rfl : i = 481 := by omega
    rw [s253_2]
    simp only [s253_0, s253_1, s253_3, s253_6, s253_9, s253_10, s253_13, s253_14, s253_15, s253_18, s253_19, s253_20, s253_21, s253_24, s253_27, sx_push, tf, List.length_cons, List.length_nil, Option.some.injEq, exists_eq_left', Nat.reduceAdd, Nat.reduceLeDiff, true_and, and_true, true_or, or_true, Int.zero_add, Nat.zero_le, eq_self, ne_eq, not_true_eq_false, not_false_eq_true, false_implies, true_implies, implies_true, b2i_0, b2i_1, b2i_01, up_sc, sc_at, sc_sc, ite_true, ite_false, if_true, if_false, Nat.reduceEqDiff, reduceIte]
    repeat' (first | intro _ | refine And.intro ?_ ?_)
    all_goals first | exact hK | omega
  | succ k ih =>
    intro i hi h0 hK
    rw [s253_2]
    simp only [s253_0, s253_1, s253_3, s253_6, s253_9, s253_10, s253_13, s253_14, s253_15, s253_18, s253_19, s253_20, s253_21, s253_24, s253_27, sx_push, tf, List.length_cons, List.length_nil, Option.some.injEq, exists_eq_left', Nat.reduceAdd, Nat.reduceLeDiff, true_and, and_true, true_or, or_true, Int.zero_add, Nat.zero_le, eq_self, ne_eq, not_true_eq_false, not_false_eq_true, false_implies, true_implies, implies_true, b2i_0, b2i_1, b2i_01, up_sc, sc_at, sc_sc, ite_true, ite_false, if_true, if_false, Nat.reduceEqDiff, reduceIte, cpF_s h0]
    repeat' (first | intro _ | refine And.intro ?_ ?_)
    all_goals first | omega | exact ih _ (by omega) (by omega) hK
theorem x253 : Rn 253 0 [some (vR 149), none] [] (T0 n) σ K ↔ K none (T0 n) (sc σ 152 (cpF (σ 150) (σ 152) 481)) := by
  refine Rn_iff fun K hK => ?_
  simp only [s253_0, s253_1, s253_3, s253_6, s253_9, s253_10, s253_13, s253_14, s253_15, s253_18, s253_19, s253_20, s253_21, s253_24, s253_27, sx_push, tf, List.length_cons, List.length_nil, Option.some.injEq, exists_eq_left', Nat.reduceAdd, Nat.reduceLeDiff, true_and, and_true, true_or, or_true, Int.zero_add, Nat.zero_le, eq_self, ne_eq, not_true_eq_false, not_false_eq_true, false_implies, true_implies, implies_true, b2i_0, b2i_1, b2i_01, up_sc, sc_at, sc_sc, ite_true, ite_false, if_true, if_false, Nat.reduceEqDiff, reduceIte]
  have := x253l (σ := σ) (n := n) 481 0 (by omega) (by omega) hK
  rw [cpF_0, sc_id] at this
  exact this
theorem x258l : ∀ (k : Nat) (i : Int), i + k = 481 → 0 ≤ i → K none (T0 n) (sc σ 150 (cpF (σ 152) (σ 150) 481)) → Rn 258 2 [some (vR 149), some (vI i)] [] (T0 n) (sc σ 150 (cpF (σ 152) (σ 150) i)) K := by
  intro k
  induction k with
  | zero =>
    intro i hi h0 hK
    obtain rfl : i = 481 := by omega
    rw [s258_2]
    simp only [s258_0, s258_1, s258_3, s258_6, s258_9, s258_10, s258_13, s258_14, s258_15, s258_18, s258_19, s258_20, s258_21, s258_24, s258_27, sx_push, tf, List.length_cons, List.length_nil, Option.some.injEq, exists_eq_left', Nat.reduceAdd, Nat.reduceLeDiff, true_and, and_true, true_or, or_true, Int.zero_add, Nat.zero_le, eq_self, ne_eq, not_true_eq_false, not_false_eq_true, false_implies, true_implies, implies_true, b2i_0, b2i_1, b2i_01, up_sc, sc_at, sc_sc, ite_true, ite_false, if_true, if_false, Nat.reduceEqDiff, reduceIte]
    repeat' (first | intro _ | refine And.intro ?_ ?_)
    all_goals first | exact hK | omega
  | succ k ih =>
    intro i hi h0 hK
    rw [s258_2]
    simp only [s258_0, s258_1, s258_3, s258_6, s258_9, s258_10, s258_13, s258_14, s258_15, s258_18, s258_19, s258_20, s258_21, s258_24, s258_27, sx_push, tf, List.length_cons, List.length_nil, Option.some.injEq, exists_eq_left', Nat.reduceAdd, Nat.reduceLeDiff, true_and, and_true, true_or, or_true, Int.zero_add, Nat.zero_le, eq_self, ne_eq, not_true_eq_false, not_false_eq_true, false_implies, true_implies, implies_true, b2i_0, b2i_1, b2i_01, up_sc, sc_at, sc_sc, ite_true, ite_false, if_true, if_false, Nat.reduceEqDiff, reduceIte, cpF_s h0]
    repeat' (first | intro _ | refine And.intro ?_ ?_)
    all_goals first | omega | exact ih _ (by omega) (by omega) hK
theorem x258 : Rn 258 0 [some (vR 149), none] [] (T0 n) σ K ↔ K none (T0 n) (sc σ 150 (cpF (σ 152) (σ 150) 481)) := by
  refine Rn_iff fun K hK => ?_
  simp only [s258_0, s258_1, s258_3, s258_6, s258_9, s258_10, s258_13, s258_14, s258_15, s258_18, s258_19, s258_20, s258_21, s258_24, s258_27, sx_push, tf, List.length_cons, List.length_nil, Option.some.injEq, exists_eq_left', Nat.reduceAdd, Nat.reduceLeDiff, true_and, and_true, true_or, or_true, Int.zero_add, Nat.zero_le, eq_self, ne_eq, not_true_eq_false, not_false_eq_true, false_implies, true_implies, implies_true, b2i_0, b2i_1, b2i_01, up_sc, sc_at, sc_sc, ite_true, ite_false, if_true, if_false, Nat.reduceEqDiff, reduceIte]
  have := x258l (σ := σ) (n := n) 481 0 (by omega) (by omega) hK
  rw [cpF_0, sc_id] at this
  exact this
theorem x257l {w : Int} (hw : w = 160 ∨ w = 200) : ∀ (k : Nat) (p a : Int), p + k = 40 → 0 ≤ p → 0 ≤ a → a ≤ p → K (some (vI (cnt (fun p => decide (σ 150 p = 1 ∧ σ 150 (w + p) ≠ σ 152 (w + p))) k p a))) (T0 n) σ → Rn 257 4 [some (vR 149), some (vI w), some (vI a), some (vI p)] [] (T0 n) σ K := by
  intro k
  induction k with
  | zero =>
    intro p a hp h0 ha ha' hK
    rw [s257_4]
    simp only [s257_0, s257_1, s257_2, s257_3, s257_5, s257_7, s257_10, s257_11, s257_12, s257_15, s257_16, s257_17, s257_18, s257_19, s257_20, s257_23, s257_24, s257_27, s257_28, s257_29, s257_30, s257_31, s257_32, s257_35, s257_36, s257_37, s257_38, s257_39, s257_42, s257_43, s257_46, s257_47, s257_48, s257_49, s257_52, s257_55, s257_56, sx_push, tf, List.length_cons, List.length_nil, Option.some.injEq, exists_eq_left', Nat.reduceAdd, Nat.reduceLeDiff, true_and, and_true, true_or, or_true, Int.zero_add, Nat.zero_le, eq_self, ne_eq, not_true_eq_false, not_false_eq_true, false_implies, true_implies, implies_true, b2i_0, b2i_1, b2i_01, up_sc, sc_at, sc_sc, ite_true, ite_false, if_true, if_false, Nat.reduceEqDiff, reduceIte]
    repeat' (first | intro _ | refine And.intro ?_ ?_)
    all_goals first | exact hK | omega
  | succ k ih =>
    intro p a hp h0 ha ha' hK
    have h1 : p < 40 := by omega
    unfold cnt at hK
    simp only [decide_eq_true_eq] at hK
    rw [s257_4]
    simp only [s257_0, s257_1, s257_2, s257_3, s257_5, s257_7, s257_10, s257_11, s257_12, s257_15, s257_16, s257_17, s257_18, s257_19, s257_20, s257_23, s257_24, s257_27, s257_28, s257_29, s257_30, s257_31, s257_32, s257_35, s257_36, s257_37, s257_38, s257_39, s257_42, s257_43, s257_46, s257_47, s257_48, s257_49, s257_52, s257_55, s257_56, sx_push, tf, List.length_cons, List.length_nil, Option.some.injEq, exists_eq_left', Nat.reduceAdd, Nat.reduceLeDiff, true_and, and_true, true_or, or_true, Int.zero_add, Nat.zero_le, eq_self, ne_eq, not_true_eq_false, not_false_eq_true, false_implies, true_implies, implies_true, b2i_0, b2i_1, b2i_01, up_sc, sc_at, sc_sc, ite_true, ite_false, if_true, if_false, Nat.reduceEqDiff, reduceIte, Int.add_zero]
    repeat' (first | intro _ | refine And.intro ?_ ?_)
    all_goals first | omega | (split at hK <;> first | exact hK | omega | exact ih _ _ (by omega) (by omega) (by omega) (by omega) hK)
theorem x257 {w : Int} (hw : w = 160 ∨ w = 200) : Rn 257 0 [some (vR 149), some (vI w), none, none] [] (T0 n) σ K ↔ K (some (vI (cnt (fun p => decide (σ 150 p = 1 ∧ σ 150 (w + p) ≠ σ 152 (w + p))) 40 0 0))) (T0 n) σ := by
  refine Rn_iff fun K hK => ?_
  simp only [s257_0, s257_1, s257_2, s257_3, s257_5, s257_7, s257_10, s257_11, s257_12, s257_15, s257_16, s257_17, s257_18, s257_19, s257_20, s257_23, s257_24, s257_27, s257_28, s257_29, s257_30, s257_31, s257_32, s257_35, s257_36, s257_37, s257_38, s257_39, s257_42, s257_43, s257_46, s257_47, s257_48, s257_49, s257_52, s257_55, s257_56, sx_push, tf, List.length_cons, List.length_nil, Option.some.injEq, exists_eq_left', Nat.reduceAdd, Nat.reduceLeDiff, true_and, and_true, true_or, or_true, Int.zero_add, Nat.zero_le, eq_self, ne_eq, not_true_eq_false, not_false_eq_true, false_implies, true_implies, implies_true, b2i_0, b2i_1, b2i_01, up_sc, sc_at, sc_sc, ite_true, ite_false, if_true, if_false, Nat.reduceEqDiff, reduceIte]
  exact x257l hw 40 0 0 (by omega) (by omega) (by omega) (by omega) hK

theorem x169 {w : Int} (h0 : 0 ≤ w) (h1 : w < 6) (hr : inI (σ 155 w + 1)) : Rn 169 0 [some (vR 149), some (vI w)] [] (T0 n) σ K ↔ K (some (vI (-1))) (T0 n) (sc σ 155 (up1 (σ 155) w (σ 155 w + 1))) := by
  refine Rn_iff fun K hK => ?_
  simp only [s169_0, s169_1, s169_4, s169_5, s169_6, s169_7, s169_8, s169_9, s169_10, s169_11, sx_push, tf, List.length_cons, List.length_nil, Option.some.injEq, exists_eq_left', Nat.reduceAdd, Nat.reduceLeDiff, true_and, and_true, true_or, or_true, Int.zero_add, Nat.zero_le, eq_self, ne_eq, not_true_eq_false, not_false_eq_true, false_implies, true_implies, implies_true, b2i_0, b2i_1, b2i_01, up_sc, sc_at, sc_sc, ite_true, ite_false, if_true, if_false, Nat.reduceEqDiff, reduceIte]
  repeat' (first | intro _ | refine And.intro ?_ ?_)
  all_goals first | exact hK | omega
theorem x172 {w : Int} (h0 : 0 ≤ w) (h1 : w < 6) (hr : inI (σ 155 w + 1)) : Rn 172 0 [some (vR 149), some (vI w)] [] (T0 n) σ K ↔ K (some (vI 0)) (T0 n) (sc σ 155 (up1 (σ 155) w (σ 155 w + 1))) := by
  refine Rn_iff fun K hK => ?_
  simp only [s172_0, s172_1, s172_4, s172_5, s172_6, s172_7, s172_8, s172_9, s172_10, s172_11, sx_push, tf, List.length_cons, List.length_nil, Option.some.injEq, exists_eq_left', Nat.reduceAdd, Nat.reduceLeDiff, true_and, and_true, true_or, or_true, Int.zero_add, Nat.zero_le, eq_self, ne_eq, not_true_eq_false, not_false_eq_true, false_implies, true_implies, implies_true, b2i_0, b2i_1, b2i_01, up_sc, sc_at, sc_sc, ite_true, ite_false, if_true, if_false, Nat.reduceEqDiff, reduceIte]
  repeat' (first | intro _ | refine And.intro ?_ ?_)
  all_goals first | exact hK | omega
theorem x174 : Rn 174 0 [some (vR 149), none] [] (T0 n) σ K ↔ K (some (vI (σ 149 8))) (T0 n) (sc σ 149 (up1 (σ 149) 8 0)) := by
  refine Rn_iff fun K hK => ?_
  simp only [s174_0, s174_1, s174_4, s174_5, s174_6, s174_7, s174_10, s174_11, sx_push, tf, List.length_cons, List.length_nil, Option.some.injEq, exists_eq_left', Nat.reduceAdd, Nat.reduceLeDiff, true_and, and_true, true_or, or_true, Int.zero_add, Nat.zero_le, eq_self, ne_eq, not_true_eq_false, not_false_eq_true, false_implies, true_implies, implies_true, b2i_0, b2i_1, b2i_01, up_sc, sc_at, sc_sc, ite_true, ite_false, if_true, if_false, Nat.reduceEqDiff, reduceIte]
  exact hK
def byF (v i : Int) : Int := sx_and (v / 2 ^ (24 - 8 * i).toNat) 255
def layF (t : Int → Int) (m v i : Int) : Int → Int := fun j => if m ≤ j ∧ j < m + i then byF v (j - m) else t j
theorem layF_0 (t : Int → Int) (m v : Int) : layF t m v 0 = t := by
  funext j; unfold layF; rw [if_neg (by omega)]
theorem layF_s {t : Int → Int} {m v i : Int} (hi : 0 ≤ i) : up1 (layF t m v i) (m + i) (byF v i) = layF t m v (i + 1) := by
  funext j
  unfold up1 layF
  by_cases e : j = m + i
  · rw [if_pos e, if_pos (by omega), show j - m = i by omega]
  · rw [if_neg e]
    by_cases z : m ≤ j ∧ j < m + i
    · rw [if_pos z, if_pos (by omega)]
    · rw [if_neg z, if_neg (by omega)]
theorem shr_in {v : Int} {k : Nat} (hv : inI v) : inI (v / 2 ^ k) := by
  have h1 : (0 : Int) < 2 ^ k := Int.pow_pos (by decide)
  have h2 : (2:Int) ^ k ≥ 1 := h1
  have a1 := Int.ediv_mul_le v (Int.ne_of_gt h1)
  have a2 := Int.lt_ediv_add_one_mul_self v h1
  generalize v / 2 ^ k = q at *
  generalize (2:Int) ^ k = d at *
  constructor
  · by_cases hq : 0 ≤ q
    · omega
    · have : (q + 1) * d ≤ q + 1 := by
        have h5 := Int.mul_le_mul_of_nonneg_left h2 (show 0 ≤ -(q + 1) by omega)
        simp only [Int.neg_mul, Int.mul_one] at h5
        generalize (q + 1) * d = z at *
        omega
      omega
  · by_cases hq : 0 ≤ q
    · have : q ≤ q * d := by
        have := Int.mul_le_mul_of_nonneg_left h2 hq
        omega
      omega
    · omega
theorem x170l {v : Int} (hv : inI v) (h0 : 0 ≤ σ 149 8) (h1 : σ 149 8 + 4 ≤ 1600) : ∀ (k : Nat) (i : Int), i + k = 4 → 0 ≤ i → K none (T0 n) (sc (sc σ 154 (layF (σ 154) (σ 149 8) v 4)) 149 (up1 (σ 149) 8 (σ 149 8 + 4))) → Rn 170 2 [some (vR 149), some (vI v), some (vI i)] [] (T0 n) (sc σ 154 (layF (σ 154) (σ 149 8) v i)) K := by
  intro k
  induction k with
  | zero =>
    intro i hi g0 hK
    obtain rfl : i = 4 := by omega
    rw [s170_2]
    simp only [s170_0, s170_1, s170_3, s170_4, s170_7, s170_8, s170_11, s170_12, s170_15, s170_16, s170_17, s170_18, s170_20, s170_22, s170_23, s170_24, s170_25, s170_26, s170_29, s170_30, s170_31, s170_34, s170_37, s170_38, s170_39, s170_42, s170_43, s170_44, s170_47, sx_push, tf, List.length_cons, List.length_nil, Option.some.injEq, exists_eq_left', Nat.reduceAdd, Nat.reduceLeDiff, true_and, and_true, true_or, or_true, Int.zero_add, Nat.zero_le, eq_self, ne_eq, not_true_eq_false, not_false_eq_true, false_implies, true_implies, implies_true, b2i_0, b2i_1, b2i_01, up_sc, sc_at, sc_sc, ite_true, ite_false, if_true, if_false, Nat.reduceEqDiff, reduceIte]
    repeat' (first | intro _ | refine And.intro ?_ ?_)
    all_goals first | exact hK | omega
  | succ k ih =>
    intro i hi g0 hK
    have e : sx_and (v / 2 ^ (24 - 8 * i).toNat) 255 = byF v i := rfl
    rw [s170_2]
    simp only [s170_0, s170_1, s170_3, s170_4, s170_7, s170_8, s170_11, s170_12, s170_15, s170_16, s170_17, s170_18, s170_20, s170_22, s170_23, s170_24, s170_25, s170_26, s170_29, s170_30, s170_31, s170_34, s170_37, s170_38, s170_39, s170_42, s170_43, s170_44, s170_47, sx_push, tf, List.length_cons, List.length_nil, Option.some.injEq, exists_eq_left', Nat.reduceAdd, Nat.reduceLeDiff, true_and, and_true, true_or, or_true, Int.zero_add, Nat.zero_le, eq_self, ne_eq, not_true_eq_false, not_false_eq_true, false_implies, true_implies, implies_true, b2i_0, b2i_1, b2i_01, up_sc, sc_at, sc_sc, ite_true, ite_false, if_true, if_false, Nat.reduceEqDiff, reduceIte, e, layF_s g0]
    repeat' (first | intro _ | refine And.intro ?_ ?_)
    all_goals first | omega | exact (shr_in hv).1 | exact (shr_in hv).2 | exact ih _ (by omega) (by omega) hK
theorem x170 {v : Int} (hv : inI v) (h0 : 0 ≤ σ 149 8) (h1 : σ 149 8 + 4 ≤ 1600) : Rn 170 0 [some (vR 149), some (vI v), none] [] (T0 n) σ K ↔ K none (T0 n) (sc (sc σ 154 (layF (σ 154) (σ 149 8) v 4)) 149 (up1 (σ 149) 8 (σ 149 8 + 4))) := by
  refine Rn_iff fun K hK => ?_
  simp only [s170_0, s170_1, s170_3, s170_4, s170_7, s170_8, s170_11, s170_12, s170_15, s170_16, s170_17, s170_18, s170_20, s170_22, s170_23, s170_24, s170_25, s170_26, s170_29, s170_30, s170_31, s170_34, s170_37, s170_38, s170_39, s170_42, s170_43, s170_44, s170_47, sx_push, tf, List.length_cons, List.length_nil, Option.some.injEq, exists_eq_left', Nat.reduceAdd, Nat.reduceLeDiff, true_and, and_true, true_or, or_true, Int.zero_add, Nat.zero_le, eq_self, ne_eq, not_true_eq_false, not_false_eq_true, false_implies, true_implies, implies_true, b2i_0, b2i_1, b2i_01, up_sc, sc_at, sc_sc, ite_true, ite_false, if_true, if_false, Nat.reduceEqDiff, reduceIte]
  have := x170l (σ := σ) (n := n) hv h0 h1 4 0 (by omega) (by omega) hK
  rw [layF_0, sc_id] at this
  exact this
theorem x286 {w : Int} : Rn 286 0 [some (vR 149), some (vI w)] [] (T0 n) σ K ↔ K (some (vI (if 0 ≤ w ∧ w ≤ 5 then σ 155 w else -1))) (T0 n) σ := by
  refine Rn_iff fun K hK => ?_
  simp only [s286_0, s286_1, s286_2, s286_3, s286_6, s286_9, s286_10, s286_13, s286_14, s286_15, s286_18, s286_19, sx_push, tf, List.length_cons, List.length_nil, Option.some.injEq, exists_eq_left', Nat.reduceAdd, Nat.reduceLeDiff, true_and, and_true, true_or, or_true, Int.zero_add, Nat.zero_le, eq_self, ne_eq, not_true_eq_false, not_false_eq_true, false_implies, true_implies, implies_true, b2i_0, b2i_1, b2i_01, up_sc, sc_at, sc_sc, ite_true, ite_false, if_true, if_false, Nat.reduceEqDiff, reduceIte, x185]
  repeat' (first | intro _ | refine And.intro ?_ ?_)
  all_goals (first | exact hK | omega | (rw [b2i_t] at hK <;> first | exact hK | omega) | (rw [b2i_f] at hK <;> first | exact hK | omega) | (split at hK <;> first | exact hK | omega))
theorem x200 {w : Int} : Rn 200 0 [some (vR 149), some (vI w)] [] (T0 n) σ K ↔ K (some (vI (if w = 0 then σ 149 10 else if w = 1 then σ 149 11 else -1))) (T0 n) σ := by
  refine Rn_iff fun K hK => ?_
  simp only [s200_0, s200_1, s200_4, s200_5, s200_8, s200_11, s200_12, s200_13, s200_16, s200_17, s200_20, s200_23, s200_24, sx_push, tf, List.length_cons, List.length_nil, Option.some.injEq, exists_eq_left', Nat.reduceAdd, Nat.reduceLeDiff, true_and, and_true, true_or, or_true, Int.zero_add, Nat.zero_le, eq_self, ne_eq, not_true_eq_false, not_false_eq_true, false_implies, true_implies, implies_true, b2i_0, b2i_1, b2i_01, up_sc, sc_at, sc_sc, ite_true, ite_false, if_true, if_false, Nat.reduceEqDiff, reduceIte]
  repeat' (first | intro _ | refine And.intro ?_ ?_)
  all_goals first | omega | (repeat' (split at hK)) <;> first | exact hK | omega
theorem x282 {w : Int} (h1 : 0 ≤ σ 149 41) (h2 : σ 149 41 ≤ 243) : Rn 282 0 [some (vR 149), some (vI w)] [] (T0 n) σ K ↔ K (some (vI (if 0 ≤ w ∧ w ≤ σ 149 41 - 1 then σ 169 w else -1))) (T0 n) σ := by
  refine Rn_iff fun K hK => ?_
  simp only [s282_0, s282_1, s282_2, s282_3, s282_6, s282_7, s282_8, s282_11, s282_14, s282_15, s282_18, s282_19, s282_20, s282_23, s282_24, sx_push, tf, List.length_cons, List.length_nil, Option.some.injEq, exists_eq_left', Nat.reduceAdd, Nat.reduceLeDiff, true_and, and_true, true_or, or_true, Int.zero_add, Nat.zero_le, eq_self, ne_eq, not_true_eq_false, not_false_eq_true, false_implies, true_implies, implies_true, b2i_0, b2i_1, b2i_01, up_sc, sc_at, sc_sc, ite_true, ite_false, if_true, if_false, Nat.reduceEqDiff, reduceIte, x185]
  repeat' (first | intro _ | refine And.intro ?_ ?_)
  all_goals (first | exact hK | omega | (rw [b2i_t] at hK <;> first | exact hK | omega) | (rw [b2i_f] at hK <;> first | exact hK | omega) | (split at hK <;> first | exact hK | omega))
theorem x279 {w : Int} (hr : inI (σ 155 5 + 1)) : Rn 279 0 [some (vR 149), some (vI w)] [] (T0 n) σ K ↔ K (some (vI (b2i (0 ≤ w)))) (T0 n) (if 0 ≤ w then sc σ 149 (up1 (σ 149) 5 w) else sc σ 155 (up1 (σ 155) 5 (σ 155 5 + 1))) := by
  refine Rn_iff fun K hK => ?_
  simp only [s279_0, s279_1, s279_4, s279_5, s279_6, s279_9, s279_10, s279_11, s279_12, s279_15, s279_16, sx_push, tf, List.length_cons, List.length_nil, Option.some.injEq, exists_eq_left', Nat.reduceAdd, Nat.reduceLeDiff, true_and, and_true, true_or, or_true, Int.zero_add, Nat.zero_le, eq_self, ne_eq, not_true_eq_false, not_false_eq_true, false_implies, true_implies, implies_true, b2i_0, b2i_1, b2i_01, up_sc, sc_at, sc_sc, ite_true, ite_false, if_true, if_false, Nat.reduceEqDiff, reduceIte, x172 (w := 5) (by omega) (by omega) hr]
  by_cases h : 0 ≤ w
  · rw [if_pos h, b2i_t h] at hK
    repeat' (first | intro _ | refine And.intro ?_ ?_)
    all_goals first | exact hK | omega
  · rw [if_neg h, b2i_f h] at hK
    repeat' (first | intro _ | refine And.intro ?_ ?_)
    all_goals first | exact hK | omega
theorem x171 {w : Int} (hr : inI (σ 155 0 + 1)) : Rn 171 0 [some (vR 149), some (vI w)] [] (T0 n) σ K ↔ K (some (vI (b2i (0 ≤ w ∧ w ≤ σ 149 8)))) (T0 n) (if 0 ≤ w ∧ w ≤ σ 149 8 then sc σ 149 (up1 (σ 149) 8 w) else sc σ 155 (up1 (σ 155) 0 (σ 155 0 + 1))) := by
  refine Rn_iff fun K hK => ?_
  simp only [s171_0, s171_1, s171_4, s171_5, s171_6, s171_9, s171_12, s171_13, s171_14, s171_17, s171_18, s171_19, s171_20, s171_23, s171_24, sx_push, tf, List.length_cons, List.length_nil, Option.some.injEq, exists_eq_left', Nat.reduceAdd, Nat.reduceLeDiff, true_and, and_true, true_or, or_true, Int.zero_add, Nat.zero_le, eq_self, ne_eq, not_true_eq_false, not_false_eq_true, false_implies, true_implies, implies_true, b2i_0, b2i_1, b2i_01, up_sc, sc_at, sc_sc, ite_true, ite_false, if_true, if_false, Nat.reduceEqDiff, reduceIte, x172 (w := 0) (by omega) (by omega) hr]
  by_cases h : 0 ≤ w ∧ w ≤ σ 149 8
  · rw [if_pos h, b2i_t h] at hK
    repeat' (first | intro _ | refine And.intro ?_ ?_)
    all_goals first | exact hK | omega
  · rw [if_neg h, b2i_f h] at hK
    repeat' (first | intro _ | refine And.intro ?_ ?_)
    all_goals first | exact hK | omega
end M7
