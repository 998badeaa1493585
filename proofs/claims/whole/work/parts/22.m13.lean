/-! the reference: all anew, acts -/
theorem wfc_comes {f : Int → Int} {p x y z : Int} (hw : wfc f) (h0 : 0 ≤ p) (h1 : p < 40) (hx : in8 x) (hy : in8 y) (hz : in8 z) : wfc (comesF f p x y z) := by
  intro q q0 q1
  obtain ⟨w1, w2, w3⟩ := hw q q0 q1
  unfold comesF
  by_cases e : q = p
  · subst e
    rw [up1_n (show 40 + q ≠ 200 + q by omega), up1_n (show 40 + q ≠ 160 + q by omega), up1_n (show 40 + q ≠ 120 + q by omega), up1_n (show 40 + q ≠ 80 + q by omega), up1_s, up1_n (show 80 + q ≠ 200 + q by omega), up1_n (show 80 + q ≠ 160 + q by omega), up1_n (show 80 + q ≠ 120 + q by omega), up1_s, up1_n (show 120 + q ≠ 200 + q by omega), up1_n (show 120 + q ≠ 160 + q by omega), up1_s]
    exact ⟨hx, hy, hz⟩
  · have e1 : ∀ j, j ≠ p → j ≠ 40 + p → j ≠ 80 + p → j ≠ 120 + p → j ≠ 160 + p → j ≠ 200 + p → up1 (up1 (up1 (up1 (up1 (up1 f p 1) (40 + p) x) (80 + p) y) (120 + p) z) (160 + p) (levelO f x y z)) (200 + p) (if levelO f x y z = 10 then -1 else near f (levelO f x y z + 1) x y z) j = f j := fun j a b c d e g => by rw [up1_n g, up1_n e, up1_n d, up1_n c, up1_n b, up1_n a]
    rw [e1 _ (by omega) (by omega) (by omega) (by omega) (by omega) (by omega), e1 _ (by omega) (by omega) (by omega) (by omega) (by omega) (by omega), e1 _ (by omega) (by omega) (by omega) (by omega) (by omega) (by omega)]
    exact ⟨w1, w2, w3⟩
def anewL (f0 : Int → Int) : Nat → Int → (Int → Int) → (Int → Int)
  | 0, _, h => h
  | k + 1, p, h => anewL f0 k (p + 1) (if f0 p = 1 then comesF h p (h (40 + p)) (h (80 + p)) (h (120 + p)) else h)
def anewF (f : Int → Int) : Int → Int := anewL f 40 0 (cpF (fun _ => 0) f 40)
section M13
variable {n : Nat} {K : Option sxV → sxT → sxS → Prop}
theorem x260a {σ : sxS} : ∀ (k : Nat) (i : Int), i + k = 40 → 0 ≤ i → Rn 260 28 [some (vR 149), some (vI 40)] [] (T0 n) (sc σ 153 (cpF (σ 150) (σ 153) 40)) K → Rn 260 2 [some (vR 149), some (vI i)] [] (T0 n) (sc σ 153 (cpF (σ 150) (σ 153) i)) K := by
  intro k
  induction k with
  | zero =>
    intro i hi h0 hK
    obtain rfl : i = 40 := by omega
    rw [s260_2]
    simp only [s260_3, s260_5, s260_8, s260_9, s260_12, s260_13, s260_14, s260_17, s260_18, s260_19, s260_20, s260_21, s260_22, s260_25, sx_push, tf, List.length_cons, List.length_nil, Option.some.injEq, exists_eq_left', Nat.reduceAdd, Nat.reduceLeDiff, true_and, and_true, true_or, or_true, Int.zero_add, Nat.zero_le, eq_self, ne_eq, not_true_eq_false, not_false_eq_true, false_implies, true_implies, implies_true, b2i_0, b2i_1, b2i_01, up_sc, sc_at, sc_sc, ite_true, ite_false, if_true, if_false, Nat.reduceEqDiff, reduceIte]
    repeat' (first | intro _ | refine And.intro ?_ ?_)
    all_goals first | exact hK | omega
  | succ k ih =>
    intro i hi h0 hK
    rw [s260_2]
    simp only [s260_3, s260_5, s260_8, s260_9, s260_12, s260_13, s260_14, s260_17, s260_18, s260_19, s260_20, s260_21, s260_22, s260_25, sx_push, tf, List.length_cons, List.length_nil, Option.some.injEq, exists_eq_left', Nat.reduceAdd, Nat.reduceLeDiff, true_and, and_true, true_or, or_true, Int.zero_add, Nat.zero_le, eq_self, ne_eq, not_true_eq_false, not_false_eq_true, false_implies, true_implies, implies_true, b2i_0, b2i_1, b2i_01, up_sc, sc_at, sc_sc, ite_true, ite_false, if_true, if_false, Nat.reduceEqDiff, reduceIte, cpF_s h0]
    repeat' (first | intro _ | refine And.intro ?_ ?_)
    all_goals first | omega | exact ih _ (by omega) (by omega) hK
theorem x260b {σ : sxS} : ∀ (k : Nat) (i : Int), i + k = 40 → 0 ≤ i → Rn 260 51 [some (vR 149), some (vI 40)] [] (T0 n) (sc σ 150 (cpF (fun _ => 0) (σ 150) 40)) K → Rn 260 30 [some (vR 149), some (vI i)] [] (T0 n) (sc σ 150 (cpF (fun _ => 0) (σ 150) i)) K := by
  intro k
  induction k with
  | zero =>
    intro i hi h0 hK
    obtain rfl : i = 40 := by omega
    rw [s260_30]
    simp only [s260_31, s260_33, s260_36, s260_37, s260_40, s260_41, s260_42, s260_43, s260_44, s260_45, s260_48, sx_push, tf, List.length_cons, List.length_nil, Option.some.injEq, exists_eq_left', Nat.reduceAdd, Nat.reduceLeDiff, true_and, and_true, true_or, or_true, Int.zero_add, Nat.zero_le, eq_self, ne_eq, not_true_eq_false, not_false_eq_true, false_implies, true_implies, implies_true, b2i_0, b2i_1, b2i_01, up_sc, sc_at, sc_sc, ite_true, ite_false, if_true, if_false, Nat.reduceEqDiff, reduceIte]
    repeat' (first | intro _ | refine And.intro ?_ ?_)
    all_goals first | exact hK | omega
  | succ k ih =>
    intro i hi h0 hK
    have e := cpF_s (g := fun _ => 0) (h := σ 150) h0
    rw [s260_30]
    simp only [s260_31, s260_33, s260_36, s260_37, s260_40, s260_41, s260_42, s260_43, s260_44, s260_45, s260_48, sx_push, tf, List.length_cons, List.length_nil, Option.some.injEq, exists_eq_left', Nat.reduceAdd, Nat.reduceLeDiff, true_and, and_true, true_or, or_true, Int.zero_add, Nat.zero_le, eq_self, ne_eq, not_true_eq_false, not_false_eq_true, false_implies, true_implies, implies_true, b2i_0, b2i_1, b2i_01, up_sc, sc_at, sc_sc, ite_true, ite_false, if_true, if_false, Nat.reduceEqDiff, reduceIte, e]
    repeat' (first | intro _ | refine And.intro ?_ ?_)
    all_goals first | omega | exact ih _ (by omega) (by omega) hK
theorem x260c {f0 : Int → Int} : ∀ (k : Nat) (i : Int) (σ : sxS), i + k = 40 → 0 ≤ i → wfc (σ 150) → (∀ p, 0 ≤ p → p < 40 → σ 153 p = f0 p) → K none (T0 n) (sc σ 150 (anewL f0 k i (σ 150))) → Rn 260 53 [some (vR 149), some (vI i)] [] (T0 n) σ K := by
  intro k
  induction k with
  | zero =>
    intro i σ hi h0 hw h153 hK
    unfold anewL at hK
    rw [sc_id] at hK
    rw [s260_53]
    simp only [s260_54, s260_56, s260_59, s260_60, s260_63, s260_64, s260_65, s260_66, s260_69, s260_70, s260_71, s260_72, s260_75, s260_77, s260_78, s260_79, s260_80, s260_81, s260_84, s260_86, s260_87, s260_88, s260_89, s260_90, s260_93, s260_95, s260_96, s260_97, s260_98, s260_101, s260_104, s260_107, sx_push, tf, List.length_cons, List.length_nil, Option.some.injEq, exists_eq_left', Nat.reduceAdd, Nat.reduceLeDiff, true_and, and_true, true_or, or_true, Int.zero_add, Nat.zero_le, eq_self, ne_eq, not_true_eq_false, not_false_eq_true, false_implies, true_implies, implies_true, b2i_0, b2i_1, b2i_01, up_sc, sc_at, sc_sc, ite_true, ite_false, if_true, if_false, Nat.reduceEqDiff, reduceIte]
    repeat' (first | intro _ | refine And.intro ?_ ?_)
    all_goals first | exact hK | omega
  | succ k ih =>
    intro i σ hi h0 hw h153 hK
    have h1 : i < 40 := by omega
    have e := h153 i h0 h1
    obtain ⟨w1, w2, w3⟩ := hw i h0 h1
    unfold anewL at hK
    rw [s260_53]
    simp only [s260_54, s260_56, s260_59, s260_60, s260_63, s260_64, s260_65, s260_66, s260_69, s260_70, s260_71, s260_72, s260_75, s260_77, s260_78, s260_79, s260_80, s260_81, s260_84, s260_86, s260_87, s260_88, s260_89, s260_90, s260_93, s260_95, s260_96, s260_97, s260_98, s260_101, s260_104, s260_107, sx_push, tf, List.length_cons, List.length_nil, Option.some.injEq, exists_eq_left', Nat.reduceAdd, Nat.reduceLeDiff, true_and, and_true, true_or, or_true, Int.zero_add, Nat.zero_le, eq_self, ne_eq, not_true_eq_false, not_false_eq_true, false_implies, true_implies, implies_true, b2i_0, b2i_1, b2i_01, up_sc, sc_at, sc_sc, ite_true, ite_false, if_true, if_false, Nat.reduceEqDiff, reduceIte, x191 hw w1 w2 w3 h0 h1, e]
    by_cases c : f0 i = 1
    · rw [if_pos c] at hK
      have go := ih (i + 1) (sc σ 150 (comesF (σ 150) i (σ 150 (40 + i)) (σ 150 (80 + i)) (σ 150 (120 + i)))) (by omega) (by omega) (by simp only [sc_at, reduceIte]; exact wfc_comes hw h0 h1 w1 w2 w3) (fun p p0 p1 => by simp only [sc_at, Nat.reduceEqDiff, reduceIte]; exact h153 p p0 p1) (by simp only [sc_at, reduceIte, sc_sc]; exact hK)
      repeat' (first | intro _ | refine And.intro ?_ ?_)
      all_goals first | omega | exact go
    · rw [if_neg c] at hK
      have go := ih (i + 1) σ (by omega) (by omega) hw h153 hK
      repeat' (first | intro _ | refine And.intro ?_ ?_)
      all_goals first | omega | exact go
theorem wfc_cp {f : Int → Int} (hw : wfc f) : wfc (cpF (fun _ => 0) f 40) := by
  intro q q0 q1
  have := hw q q0 q1
  unfold cpF
  rw [if_neg (by omega), if_neg (by omega), if_neg (by omega)]
  exact this
theorem x260 {σ : sxS} (hw : wfc (σ 150)) : Rn 260 0 [some (vR 149), none] [] (T0 n) σ K ↔ K none (T0 n) (sc (sc σ 150 (anewF (σ 150))) 153 (cpF (σ 150) (σ 153) 40)) := by
  refine Rn_iff fun K hK => ?_
  simp only [s260_0, s260_1, sx_push, tf, List.length_cons, List.length_nil, Option.some.injEq, exists_eq_left', Nat.reduceAdd, Nat.reduceLeDiff, true_and, and_true, true_or, or_true, Int.zero_add, Nat.zero_le, eq_self, ne_eq, not_true_eq_false, not_false_eq_true, false_implies, true_implies, implies_true, b2i_0, b2i_1, b2i_01, up_sc, sc_at, sc_sc, ite_true, ite_false, if_true, if_false, Nat.reduceEqDiff, reduceIte]
  have a := x260a (σ := σ) (n := n) (K := K) 40 0 (by omega) (by omega) ?_
  · rw [cpF_0, sc_id] at a
    exact a
  simp only [s260_28, s260_29, sx_push, tf, List.length_cons, List.length_nil, Option.some.injEq, exists_eq_left', Nat.reduceAdd, Nat.reduceLeDiff, true_and, and_true, true_or, or_true, Int.zero_add, Nat.zero_le, eq_self, ne_eq, not_true_eq_false, not_false_eq_true, false_implies, true_implies, implies_true, b2i_0, b2i_1, b2i_01, up_sc, sc_at, sc_sc, ite_true, ite_false, if_true, if_false, Nat.reduceEqDiff, reduceIte]
  have b := x260b (σ := sc σ 153 (cpF (σ 150) (σ 153) 40)) (n := n) (K := K) 40 0 (by omega) (by omega) ?_
  · rw [cpF_0, sc_id] at b
    exact b
  simp only [s260_51, s260_52, scm, up1_s, up1_up1, Int.add_assoc, Int.reduceAdd, Int.reduceSub, Int.reduceMul, Int.reduceNeg, Int.reduceLT, Int.reduceLE, Int.reduceEq, Int.reduceNe, Int.reduceToNat, Int.reducePow, Nat.reduceLT, sx_push, tf, List.length_cons, List.length_nil, Option.some.injEq, exists_eq_left', Nat.reduceAdd, Nat.reduceLeDiff, true_and, and_true, true_or, or_true, Int.zero_add, Nat.zero_le, eq_self, ne_eq, not_true_eq_false, not_false_eq_true, false_implies, true_implies, implies_true, b2i_0, b2i_1, b2i_01, up_sc, sc_at, sc_sc, ite_true, ite_false, if_true, if_false, Nat.reduceEqDiff, reduceIte]
  refine x260c (f0 := σ 150) 40 0 _ (by omega) (by omega) ?_ (fun p p0 p1 => ?_) ?_
  · simp only [sc_at, Nat.reduceEqDiff, reduceIte]
    exact wfc_cp hw
  · simp only [sc_at, reduceIte]
    unfold cpF
    rw [if_pos ⟨p0, p1⟩]
  · simp only [sc_at, Nat.reduceEqDiff, reduceIte]
    simp only [scm, sc_sc]
    exact hK
end M13
