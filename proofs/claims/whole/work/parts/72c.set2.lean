/-! a text: bytes, blanks, words: the class -/
section S2
variable {n : Nat} {σ : sxS} {K : Option sxV → sxT → sxS → Prop} {t : Int → Int} {L : Int}
theorem x20b (h : tpOk σ t L) {i : Int} (K : Option sxV → sxT → sxS → Prop) : Rn 20 0 [some (vR 2), some (vI i)] [] (T0 n) σ K ↔ K (some (vI (bt t L i))) (T0 n) σ := by
  obtain ⟨h1, h2, h3⟩ := h
  rw [x20]
  by_cases e : 0 ≤ i ∧ i < L
  · rw [if_pos (by omega), bt_in e.1 e.2, (h3 i e.1 e.2).1]
  · rw [if_neg (by omega), show bt t L i = -1 from if_neg e]
theorem tpOk_4 {g : Int → Int} (h : tpOk σ t L) : tpOk (sc σ 4 g) t L := by
  unfold tpOk at h ⊢
  simpa [sc_at] using h
theorem x23 {k a : Int} : Rn 23 0 [some (vR 4), some (vI k), some (vI a)] [] (T0 n) σ K ↔ K (some (vI 0)) (T0 n) (sc σ 4 (up1 (up1 (σ 4) 5 k) 6 a)) := by
  refine Rn_iff fun K hK => ?_
  simp only [s23_0, s23_1, s23_2, s23_5, s23_6, s23_7, s23_10, s23_11, sx_push, tf, List.length_cons, List.length_nil, Option.some.injEq, exists_eq_left', Nat.reduceAdd, Nat.reduceLeDiff, true_and, and_true, true_or, or_true, Int.zero_add, Nat.zero_le, eq_self, ne_eq, not_true_eq_false, not_false_eq_true, false_implies, true_implies, implies_true, b2i_0, b2i_1, b2i_01, up_sc, sc_at, sc_sc, ite_true, ite_false, if_true, if_false, Nat.reduceEqDiff, reduceIte]
  repeat' (first | intro _ | refine And.intro ?_ ?_)
  all_goals first | exact hK | omega
theorem x19 : ∀ (k : Nat) (a : Int) (σ : sxS), tpOk σ t L → σ 4 7 = a → 0 ≤ a → a ≤ L → L ≤ a + k → K none (T0 n) (sc σ 4 (up1 (σ 4) 7 (skF t L k a))) → Rn 19 0 [some (vR 4)] [] (T0 n) σ K := by
  intro k
  induction k with
  | zero =>
    intro a σ h ha a0 a1 a2 hK
    have st : sc σ 4 (up1 (σ 4) 7 a) = σ := by rw [← ha, up1_id, sc_id]
    change K none (T0 n) (sc σ 4 (up1 (σ 4) 7 a)) at hK
    rw [st] at hK
    have h1 := h.1
    rw [s19_0]
    simp only [s19_1, s19_4, s19_5, s19_8, s19_11, s19_59, sx_push, tf, List.length_cons, List.length_nil, Option.some.injEq, exists_eq_left', Nat.reduceAdd, Nat.reduceLeDiff, true_and, and_true, true_or, or_true, Int.zero_add, Nat.zero_le, eq_self, ne_eq, not_true_eq_false, not_false_eq_true, false_implies, true_implies, implies_true, b2i_0, b2i_1, b2i_01, up_sc, sc_at, sc_sc, ite_true, ite_false, if_true, if_false, Nat.reduceEqDiff, reduceIte, ha, h1]
    repeat' (first | intro _ | refine And.intro ?_ ?_)
    all_goals first | omega | exact hK
  | succ k ih =>
    intro a σ h ha a0 a1 a2 hK
    unfold skF at hK
    have h1 := h.1
    have h2 := h.2.1
    rw [s19_0]
    by_cases e : blk (bt t L a)
    · rw [if_pos e] at hK
      have al : a < L := by
        apply Classical.byContradiction
        intro z
        rw [bt_out (by omega)] at e
        unfold blk at e; omega
      unfold blk at e
      have go := ih (a + 1) (sc σ 4 (up1 (σ 4) 7 (a + 1))) (tpOk_4 h) (by simp only [sc_at, reduceIte]; rw [up1_s]) (by omega) (by omega) (by omega) (by simp only [sc_at, reduceIte, sc_sc, up1_up1]; exact hK)
      simp only [s19_1, s19_4, s19_5, s19_8, s19_11, s19_14, s19_15, s19_18, s19_19, s19_22, s19_25, s19_27, s19_30, s19_31, s19_34, s19_35, s19_38, s19_41, s19_43, s19_46, s19_47, s19_48, s19_51, s19_52, s19_53, s19_56, sx_push, tf, List.length_cons, List.length_nil, Option.some.injEq, exists_eq_left', Nat.reduceAdd, Nat.reduceLeDiff, true_and, and_true, true_or, or_true, Int.zero_add, Nat.zero_le, eq_self, ne_eq, not_true_eq_false, not_false_eq_true, false_implies, true_implies, implies_true, b2i_0, b2i_1, b2i_01, up_sc, sc_at, sc_sc, ite_true, ite_false, if_true, if_false, Nat.reduceEqDiff, reduceIte, x20b h, ha, h1]
      repeat' (first | intro _ | refine And.intro ?_ ?_)
      all_goals first | omega | exact go
    · rw [if_neg e] at hK
      have st : sc σ 4 (up1 (σ 4) 7 a) = σ := by rw [← ha, up1_id, sc_id]
      rw [st] at hK
      unfold blk at e
      by_cases al : a < L
      · simp only [s19_1, s19_4, s19_5, s19_8, s19_11, s19_14, s19_15, s19_18, s19_19, s19_22, s19_25, s19_27, s19_30, s19_31, s19_34, s19_35, s19_38, s19_41, s19_43, s19_59, sx_push, tf, List.length_cons, List.length_nil, Option.some.injEq, exists_eq_left', Nat.reduceAdd, Nat.reduceLeDiff, true_and, and_true, true_or, or_true, Int.zero_add, Nat.zero_le, eq_self, ne_eq, not_true_eq_false, not_false_eq_true, false_implies, true_implies, implies_true, b2i_0, b2i_1, b2i_01, up_sc, sc_at, sc_sc, ite_true, ite_false, if_true, if_false, Nat.reduceEqDiff, reduceIte, x20b h, ha, h1]
        repeat' (first | intro _ | refine And.intro ?_ ?_)
        all_goals first | omega | exact hK
      · simp only [s19_1, s19_4, s19_5, s19_8, s19_11, s19_59, sx_push, tf, List.length_cons, List.length_nil, Option.some.injEq, exists_eq_left', Nat.reduceAdd, Nat.reduceLeDiff, true_and, and_true, true_or, or_true, Int.zero_add, Nat.zero_le, eq_self, ne_eq, not_true_eq_false, not_false_eq_true, false_implies, true_implies, implies_true, b2i_0, b2i_1, b2i_01, up_sc, sc_at, sc_sc, ite_true, ite_false, if_true, if_false, Nat.reduceEqDiff, reduceIte, ha, h1]
        repeat' (first | intro _ | refine And.intro ?_ ?_)
        all_goals first | omega | exact hK
/-- a word of the text stands at a, no letter behind it -/
def spJ (t : Int → Int) (L : Int) : List Int → Int → Bool
  | [], a => decide (¬ (97 ≤ bt t L a ∧ bt t L a ≤ 122))
  | c :: w, a => decide (bt t L a = c) && spJ t L w (a + 1)
theorem x21l (h : tpOk σ t L) {o : Nat} (o0 : 1000001 ≤ o) (o1 : o < 1000008) {a : Int} (ha : σ 4 7 = a) (a0 : 0 ≤ a) (a1 : a ≤ 1600) {W : List Int} (hW : sx_str (o - 1000001) = W) (hl : W.length ≤ 5) : ∀ (w : List Int) (p : List Int), W = p ++ w → ((spJ t L w (a + p.length) = true) → K (some (vI 1)) (T0 n) σ) → ((spJ t L w (a + p.length) = false) → K (some (vI 0)) (T0 n) σ) → Rn 21 2 [some (vR 4), some (vR o), some (vI p.length)] [] (T0 n) σ K := by
  intro w
  induction w with
  | nil =>
    intro p hp hK1 hK0
    rw [List.append_nil] at hp
    unfold spJ at hK1 hK0
    rw [decide_eq_true_eq] at hK1
    rw [decide_eq_false_iff_not] at hK0
    have h1 := h.1
    have h2 := h.2.1
    have hl2 : W.length = p.length := by rw [hp]
    rw [s21_2]
    rw [← hl2] at hK1 hK0 ⊢
    by_cases e : 97 ≤ bt t L (a + W.length) ∧ bt t L (a + W.length) ≤ 122
    · have hK := hK0 (fun z => z e)
      simp only [s21_3, s21_4, s21_7, s21_39, s21_40, s21_43, s21_44, s21_47, s21_48, s21_51, s21_52, s21_55, s21_58, s21_61, s21_62, s21_65, s21_66, sx_push, tf, List.length_cons, List.length_nil, Option.some.injEq, exists_eq_left', Nat.reduceAdd, Nat.reduceLeDiff, true_and, and_true, true_or, or_true, Int.zero_add, Nat.zero_le, eq_self, ne_eq, not_true_eq_false, not_false_eq_true, false_implies, true_implies, implies_true, b2i_0, b2i_1, b2i_01, up_sc, sc_at, sc_sc, ite_true, ite_false, if_true, if_false, Nat.reduceEqDiff, reduceIte, x20b h, x22, ha, hW]
      repeat' (first | intro _ | refine And.intro ?_ ?_)
      all_goals first | omega | exact hK
    · have hK := hK1 e
      simp only [s21_3, s21_4, s21_7, s21_39, s21_40, s21_43, s21_44, s21_47, s21_48, s21_51, s21_52, s21_55, s21_58, s21_61, s21_62, s21_65, s21_66, sx_push, tf, List.length_cons, List.length_nil, Option.some.injEq, exists_eq_left', Nat.reduceAdd, Nat.reduceLeDiff, true_and, and_true, true_or, or_true, Int.zero_add, Nat.zero_le, eq_self, ne_eq, not_true_eq_false, not_false_eq_true, false_implies, true_implies, implies_true, b2i_0, b2i_1, b2i_01, up_sc, sc_at, sc_sc, ite_true, ite_false, if_true, if_false, Nat.reduceEqDiff, reduceIte, x20b h, x22, ha, hW]
      repeat' (first | intro _ | refine And.intro ?_ ?_)
      all_goals first | omega | exact hK
  | cons c w ih =>
    intro p hp hK1 hK0
    unfold spJ at hK1 hK0
    have h1 := h.1
    have h2 := h.2.1
    have hl2 : W.length = p.length + (w.length + 1) := by rw [hp, List.length_append, List.length_cons]
    have gd : W.getD ((p.length : Int).toNat) 0 = c := by
      rw [Int.toNat_natCast, hp, List.getD_eq_getElem?_getD, List.getElem?_append_right (Nat.le_refl _), Nat.sub_self]; rfl
    rw [s21_2]
    by_cases e : bt t L (a + p.length) = c
    · have go := ih (p ++ [c]) (by rw [hp]; simp) (fun z => hK1 (by
        rw [List.length_append] at z
        rw [decide_eq_true e, Bool.true_and]
        rw [show a + ((p.length + [c].length : Nat) : Int) = a + p.length + 1 by simp; omega] at z
        exact z)) (fun z => hK0 (by
        rw [List.length_append] at z
        rw [decide_eq_true e, Bool.true_and]
        rw [show a + ((p.length + [c].length : Nat) : Int) = a + p.length + 1 by simp; omega] at z
        exact z))
      rw [show ((p ++ [c]).length : Int) = p.length + 1 by rw [List.length_append]; simp] at go
      simp only [s21_3, s21_4, s21_7, s21_10, s21_11, s21_14, s21_15, s21_18, s21_19, s21_20, s21_23, s21_24, s21_25, s21_28, s21_31, s21_32, s21_33, s21_36, sx_push, tf, List.length_cons, List.length_nil, Option.some.injEq, exists_eq_left', Nat.reduceAdd, Nat.reduceLeDiff, true_and, and_true, true_or, or_true, Int.zero_add, Nat.zero_le, eq_self, ne_eq, not_true_eq_false, not_false_eq_true, false_implies, true_implies, implies_true, b2i_0, b2i_1, b2i_01, up_sc, sc_at, sc_sc, ite_true, ite_false, if_true, if_false, Nat.reduceEqDiff, reduceIte, x20b h, ha, hW, gd, e]
      repeat' (first | intro _ | refine And.intro ?_ ?_)
      all_goals first | omega | exact go
    · have hK := hK0 (by rw [decide_eq_false e, Bool.false_and])
      simp only [s21_3, s21_4, s21_7, s21_10, s21_11, s21_14, s21_15, s21_18, s21_19, s21_20, s21_23, s21_24, s21_25, s21_28, s21_31, s21_32, sx_push, tf, List.length_cons, List.length_nil, Option.some.injEq, exists_eq_left', Nat.reduceAdd, Nat.reduceLeDiff, true_and, and_true, true_or, or_true, Int.zero_add, Nat.zero_le, eq_self, ne_eq, not_true_eq_false, not_false_eq_true, false_implies, true_implies, implies_true, b2i_0, b2i_1, b2i_01, up_sc, sc_at, sc_sc, ite_true, ite_false, if_true, if_false, Nat.reduceEqDiff, reduceIte, x20b h, ha, hW, gd]
      repeat' (first | intro _ | refine And.intro ?_ ?_)
      all_goals first | omega | exact hK
end S2
