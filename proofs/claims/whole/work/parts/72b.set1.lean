/-! a text: bytes, blanks -/
def bt (t : Int → Int) (L i : Int) : Int := if 0 ≤ i ∧ i < L then t i else -1
abbrev blk (v : Int) : Prop := v = 10 ∨ v = 32
theorem up1_id (f : Int → Int) (i : Int) : up1 f i (f i) = f := by
  funext j
  unfold up1
  by_cases e : j = i
  · rw [if_pos e, e]
  · rw [if_neg e]
def skF (t : Int → Int) (L : Int) : Nat → Int → Int
  | 0, a => a
  | k + 1, a => if blk (bt t L a) then skF t L k (a + 1) else a
theorem bt_out {t : Int → Int} {L i : Int} (h : L ≤ i) : bt t L i = -1 := if_neg (by omega)
theorem bt_in {t : Int → Int} {L i : Int} (h0 : 0 ≤ i) (h1 : i < L) : bt t L i = t i := if_pos ⟨h0, h1⟩
theorem skF_in {t : Int → Int} {L : Int} : ∀ (k : Nat) (a : Int), 0 ≤ a → a ≤ L → L ≤ a + k → (a ≤ skF t L k a ∧ skF t L k a ≤ L) ∧ ¬ blk (bt t L (skF t L k a)) ∧ (skF t L k a ≠ a → blk (bt t L (skF t L k a - 1))) := by
  intro k
  induction k with
  | zero =>
    intro a a0 a1 a2
    have : a = L := by omega
    refine ⟨⟨Int.le_refl a, a1⟩, ?_, fun z => absurd rfl z⟩
    show ¬ blk (bt t L a)
    rw [bt_out (by omega)]; unfold blk; omega
  | succ k ih =>
    intro a a0 a1 a2
    unfold skF
    by_cases e : blk (bt t L a)
    · rw [if_pos e]
      have al : a < L := by
        apply Classical.byContradiction
        intro z
        rw [bt_out (by omega)] at e
        unfold blk at e; omega
      obtain ⟨i1, i2, i3⟩ := ih (a + 1) (by omega) (by omega) (by omega)
      refine ⟨by omega, i2, fun _ => ?_⟩
      by_cases z : skF t L k (a + 1) = a + 1
      · rw [z, Int.add_sub_cancel]; exact e
      · exact i3 z
    · rw [if_neg e]
      exact ⟨⟨Int.le_refl a, a1⟩, e, fun z => absurd rfl z⟩
section S1
variable {n : Nat} {σ : sxS} {K : Option sxV → sxT → sxS → Prop} {t : Int → Int} {L : Int}
theorem x180 (hL : σ 149 12 = L) (hl : L ≤ 1600) (ht : ∀ j, 0 ≤ j → j < L → σ 154 j = t j) {i : Int} : Rn 180 0 [some (vR 149), some (vI i)] [] (T0 n) σ K ↔ K (some (vI (bt t L i))) (T0 n) σ := by
  refine Rn_iff fun K hK => ?_
  by_cases e : 0 ≤ i ∧ i < L
  · rw [bt_in e.1 e.2, ← ht i e.1 e.2] at hK
    simp only [s180_0, s180_1, s180_4, s180_5, s180_6, s180_9, s180_12, s180_13, s180_16, s180_17, s180_18, s180_21, s180_22, sx_push, tf, List.length_cons, List.length_nil, Option.some.injEq, exists_eq_left', Nat.reduceAdd, Nat.reduceLeDiff, true_and, and_true, true_or, or_true, Int.zero_add, Nat.zero_le, eq_self, ne_eq, not_true_eq_false, not_false_eq_true, false_implies, true_implies, implies_true, b2i_0, b2i_1, b2i_01, up_sc, sc_at, sc_sc, ite_true, ite_false, if_true, if_false, Nat.reduceEqDiff, reduceIte, hL]
    repeat' (first | intro _ | refine And.intro ?_ ?_)
    all_goals first | exact hK | omega
  · rw [show bt t L i = -1 from if_neg e] at hK
    simp only [s180_0, s180_1, s180_4, s180_5, s180_6, s180_9, s180_12, s180_13, s180_16, s180_17, s180_18, s180_21, s180_22, sx_push, tf, List.length_cons, List.length_nil, Option.some.injEq, exists_eq_left', Nat.reduceAdd, Nat.reduceLeDiff, true_and, and_true, true_or, or_true, Int.zero_add, Nat.zero_le, eq_self, ne_eq, not_true_eq_false, not_false_eq_true, false_implies, true_implies, implies_true, b2i_0, b2i_1, b2i_01, up_sc, sc_at, sc_sc, ite_true, ite_false, if_true, if_false, Nat.reduceEqDiff, reduceIte, hL]
    repeat' (first | intro _ | refine And.intro ?_ ?_)
    all_goals first | exact hK | omega
theorem x181 (hL : σ 149 12 = L) (hl : L ≤ 1600) (ht : ∀ j, 0 ≤ j → j < L → σ 154 j = t j) {i : Int} : Rn 181 0 [some (vR 149), some (vI i)] [] (T0 n) σ K ↔ K (some (vI (b2i (97 ≤ bt t L i ∧ bt t L i ≤ 122)))) (T0 n) σ := by
  refine Rn_iff fun K hK => ?_
  simp only [s181_0, s181_1, s181_2, s181_5, s181_7, s181_10, s181_11, s181_12, s181_15, s181_17, s181_20, s181_21, s181_24, s181_25, sx_push, tf, List.length_cons, List.length_nil, Option.some.injEq, exists_eq_left', Nat.reduceAdd, Nat.reduceLeDiff, true_and, and_true, true_or, or_true, Int.zero_add, Nat.zero_le, eq_self, ne_eq, not_true_eq_false, not_false_eq_true, false_implies, true_implies, implies_true, b2i_0, b2i_1, b2i_01, up_sc, sc_at, sc_sc, ite_true, ite_false, if_true, if_false, Nat.reduceEqDiff, reduceIte, x180 hL hl ht]
  by_cases e : 97 ≤ bt t L i ∧ bt t L i ≤ 122
  · rw [b2i_t e] at hK
    repeat' (first | intro _ | refine And.intro ?_ ?_)
    all_goals first | exact hK | omega
  · rw [b2i_f e] at hK
    repeat' (first | intro _ | refine And.intro ?_ ?_)
    all_goals first | exact hK | omega
theorem x182 (hL : σ 149 12 = L) (hl : L ≤ 1600) (ht : ∀ j, 0 ≤ j → j < L → σ 154 j = t j) {i : Int} : Rn 182 0 [some (vR 149), some (vI i)] [] (T0 n) σ K ↔ K (some (vI (b2i (48 ≤ bt t L i ∧ bt t L i ≤ 57)))) (T0 n) σ := by
  refine Rn_iff fun K hK => ?_
  simp only [s182_0, s182_1, s182_2, s182_5, s182_7, s182_10, s182_11, s182_12, s182_15, s182_17, s182_20, s182_21, s182_24, s182_25, sx_push, tf, List.length_cons, List.length_nil, Option.some.injEq, exists_eq_left', Nat.reduceAdd, Nat.reduceLeDiff, true_and, and_true, true_or, or_true, Int.zero_add, Nat.zero_le, eq_self, ne_eq, not_true_eq_false, not_false_eq_true, false_implies, true_implies, implies_true, b2i_0, b2i_1, b2i_01, up_sc, sc_at, sc_sc, ite_true, ite_false, if_true, if_false, Nat.reduceEqDiff, reduceIte, x180 hL hl ht]
  by_cases e : 48 ≤ bt t L i ∧ bt t L i ≤ 57
  · rw [b2i_t e] at hK
    repeat' (first | intro _ | refine And.intro ?_ ?_)
    all_goals first | exact hK | omega
  · rw [b2i_f e] at hK
    repeat' (first | intro _ | refine And.intro ?_ ?_)
    all_goals first | exact hK | omega
theorem x178 : Rn 178 0 [some (vR 149)] [] (T0 n) σ K ↔ K (some (vI (b2i (σ 149 15 = 0)))) (T0 n) σ := by
  refine Rn_iff fun K hK => ?_
  simp only [s178_0, s178_1, s178_4, s178_7, s178_8, s178_11, s178_12, sx_push, tf, List.length_cons, List.length_nil, Option.some.injEq, exists_eq_left', Nat.reduceAdd, Nat.reduceLeDiff, true_and, and_true, true_or, or_true, Int.zero_add, Nat.zero_le, eq_self, ne_eq, not_true_eq_false, not_false_eq_true, false_implies, true_implies, implies_true, b2i_0, b2i_1, b2i_01, up_sc, sc_at, sc_sc, ite_true, ite_false, if_true, if_false, Nat.reduceEqDiff, reduceIte]
  by_cases e : σ 149 15 = 0
  · rw [b2i_t e] at hK
    repeat' (first | intro _ | refine And.intro ?_ ?_)
    all_goals first | exact hK | omega
  · rw [b2i_f e] at hK
    repeat' (first | intro _ | refine And.intro ?_ ?_)
    all_goals first | exact hK | omega
theorem x183n {k a : Int} (h : σ 149 15 ≠ 0) : Rn 183 0 [some (vR 149), some (vI k), some (vI a)] [] (T0 n) σ K ↔ K none (T0 n) σ := by
  refine Rn_iff fun K hK => ?_
  simp only [s183_0, s183_1, s183_4, s183_7, s183_8, s183_9, s183_10, s183_13, s183_14, s183_15, s183_18, sx_push, tf, List.length_cons, List.length_nil, Option.some.injEq, exists_eq_left', Nat.reduceAdd, Nat.reduceLeDiff, true_and, and_true, true_or, or_true, Int.zero_add, Nat.zero_le, eq_self, ne_eq, not_true_eq_false, not_false_eq_true, false_implies, true_implies, implies_true, b2i_0, b2i_1, b2i_01, up_sc, sc_at, sc_sc, ite_true, ite_false, if_true, if_false, Nat.reduceEqDiff, reduceIte]
  repeat' (first | intro _ | refine And.intro ?_ ?_)
  all_goals first | exact hK | omega | contradiction
theorem x183y {k a : Int} (h : σ 149 15 = 0) : Rn 183 0 [some (vR 149), some (vI k), some (vI a)] [] (T0 n) σ K ↔ K none (T0 n) (sc σ 149 (up1 (up1 (σ 149) 15 k) 16 a)) := by
  refine Rn_iff fun K hK => ?_
  simp only [s183_0, s183_1, s183_4, s183_7, s183_8, s183_9, s183_10, s183_13, s183_14, s183_15, s183_18, sx_push, tf, List.length_cons, List.length_nil, Option.some.injEq, exists_eq_left', Nat.reduceAdd, Nat.reduceLeDiff, true_and, and_true, true_or, or_true, Int.zero_add, Nat.zero_le, eq_self, ne_eq, not_true_eq_false, not_false_eq_true, false_implies, true_implies, implies_true, b2i_0, b2i_1, b2i_01, up_sc, sc_at, sc_sc, ite_true, ite_false, if_true, if_false, Nat.reduceEqDiff, reduceIte, h]
  repeat' (first | intro _ | refine And.intro ?_ ?_)
  all_goals first | exact hK | omega | contradiction
/-- the reference: blanks -/
theorem x179 : ∀ (k : Nat) (a : Int) (σ : sxS), σ 149 12 = L → L ≤ 1600 → (∀ j, 0 ≤ j → j < L → σ 154 j = t j) → σ 149 13 = a → 0 ≤ a → a ≤ L → L ≤ a + k → K (some (vI (bt t L (skF t L k a)))) (T0 n) (sc σ 149 (up1 (σ 149) 13 (skF t L k a))) → Rn 179 0 [some (vR 149)] [] (T0 n) σ K := by
  intro k
  induction k with
  | zero =>
    intro a σ hL hl ht ha a0 a1 a2 hK
    have e : bt t L a = -1 := bt_out (by omega)
    have st : sc σ 149 (up1 (σ 149) 13 a) = σ := by rw [← ha, up1_id, sc_id]
    change K (some (vI (bt t L a))) (T0 n) (sc σ 149 (up1 (σ 149) 13 a)) at hK
    rw [st, e] at hK
    rw [s179_0]
    simp only [s179_1, s179_2, s179_5, s179_8, s179_10, s179_13, s179_14, s179_15, s179_18, s179_21, s179_23, s179_39, s179_40, s179_41, s179_44, s179_47, sx_push, tf, List.length_cons, List.length_nil, Option.some.injEq, exists_eq_left', Nat.reduceAdd, Nat.reduceLeDiff, true_and, and_true, true_or, or_true, Int.zero_add, Nat.zero_le, eq_self, ne_eq, not_true_eq_false, not_false_eq_true, false_implies, true_implies, implies_true, b2i_0, b2i_1, b2i_01, up_sc, sc_at, sc_sc, ite_true, ite_false, if_true, if_false, Nat.reduceEqDiff, reduceIte, x180 hL hl ht, ha, e]
    repeat' (first | intro _ | refine And.intro ?_ ?_)
    all_goals first | omega | exact hK
  | succ k ih =>
    intro a σ hL hl ht ha a0 a1 a2 hK
    unfold skF at hK
    rw [s179_0]
    by_cases e : blk (bt t L a)
    · rw [if_pos e] at hK
      have al : a < L := by
        apply Classical.byContradiction
        intro z
        rw [bt_out (by omega)] at e
        unfold blk at e; omega
      unfold blk at e
      have go := ih (a + 1) (sc σ 149 (up1 (σ 149) 13 (a + 1))) (by simp only [sc_at, reduceIte]; rw [up1_n (by omega)]; exact hL) hl (by simpa [sc_at] using ht) (by simp only [sc_at, reduceIte]; rw [up1_s]) (by omega) (by omega) (by omega) (by simp only [sc_at, reduceIte, sc_sc, up1_up1]; exact hK)
      simp only [s179_1, s179_2, s179_5, s179_8, s179_10, s179_13, s179_14, s179_15, s179_18, s179_21, s179_23, s179_26, s179_27, s179_28, s179_31, s179_32, s179_33, s179_36, sx_push, tf, List.length_cons, List.length_nil, Option.some.injEq, exists_eq_left', Nat.reduceAdd, Nat.reduceLeDiff, true_and, and_true, true_or, or_true, Int.zero_add, Nat.zero_le, eq_self, ne_eq, not_true_eq_false, not_false_eq_true, false_implies, true_implies, implies_true, b2i_0, b2i_1, b2i_01, up_sc, sc_at, sc_sc, ite_true, ite_false, if_true, if_false, Nat.reduceEqDiff, reduceIte, x180 hL hl ht, ha]
      repeat' (first | intro _ | refine And.intro ?_ ?_)
      all_goals first | omega | exact go
    · rw [if_neg e] at hK
      have st : sc σ 149 (up1 (σ 149) 13 a) = σ := by rw [← ha, up1_id, sc_id]
      rw [st] at hK
      unfold blk at e
      simp only [s179_1, s179_2, s179_5, s179_8, s179_10, s179_13, s179_14, s179_15, s179_18, s179_21, s179_23, s179_39, s179_40, s179_41, s179_44, s179_47, sx_push, tf, List.length_cons, List.length_nil, Option.some.injEq, exists_eq_left', Nat.reduceAdd, Nat.reduceLeDiff, true_and, and_true, true_or, or_true, Int.zero_add, Nat.zero_le, eq_self, ne_eq, not_true_eq_false, not_false_eq_true, false_implies, true_implies, implies_true, b2i_0, b2i_1, b2i_01, up_sc, sc_at, sc_sc, ite_true, ite_false, if_true, if_false, Nat.reduceEqDiff, reduceIte, x180 hL hl ht, ha]
      repeat' (first | intro _ | refine And.intro ?_ ?_)
      all_goals first | omega | exact hK
end S1
