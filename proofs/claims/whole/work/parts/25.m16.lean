/-! the reference: another measure, all anew, what would be, by the seed -/
theorem inv_empty {f : Int → Int} (hw : wfc f) (h : ∀ p, 0 ≤ p → p < 40 → f p = 0) : invF f := ⟨fun p p0 p1 => Or.inl (h p p0 p1), hw, fun p p0 p1 hp => (by rw [h p p0 p1] at hp; cases hp), fun p q p0 p1 _ _ hp => (by rw [h p p0 p1] at hp; cases hp), fun p p0 p1 hp => (by rw [h p p0 p1] at hp; cases hp)⟩
theorem inv_anewL {f0 : Int → Int} (h01 : th01 f0) : ∀ (k : Nat) (p : Int) (h : Int → Int), p + k = 40 → 0 ≤ p → invF h → (∀ q, p ≤ q → q < 40 → h q = 0) → (∀ q, 0 ≤ q → q < p → h q = f0 q) → invF (anewL f0 k p h) ∧ (∀ q, 0 ≤ q → q < 40 → anewL f0 k p h q = f0 q) ∧ (∀ j, (40 ≤ j ∧ j < 160) ∨ 240 ≤ j → anewL f0 k p h j = h j) := by
  intro k
  induction k with
  | zero =>
    intro p h hp p0 hi hz hd
    exact ⟨hi, fun q q0 q1 => hd q q0 (by omega), fun j _ => rfl⟩
  | succ k ih =>
    intro p h hp p0 hi hz hd
    have p1 : p < 40 := by omega
    unfold anewL
    obtain ⟨w1, w2, w3⟩ := hi.2.1 p p0 p1
    by_cases c : f0 p = 1
    · rw [if_pos c]
      have hn : ∀ q, 0 ≤ q → q < 40 → q ≠ p → comesF h p (h (40 + p)) (h (80 + p)) (h (120 + p)) q = h q := fun q q0 q1 e => comesF_n (by omega) (by omega) (by omega) (by omega) (by omega) (by omega)
      obtain ⟨a, b, d⟩ := ih (p + 1) (comesF h p (h (40 + p)) (h (80 + p)) (h (120 + p))) (by omega) (by omega) (inv_comes hi p0 p1 (by rw [hz p (by omega) p1]; decide) w1 w2 w3) (fun q q0 q1 => by rw [hn q (by omega) q1 (by omega)]; exact hz q (by omega) q1) (fun q q0 q1 => by
        by_cases e : q = p
        · rw [e, (comesF_t p0 p1).1, c]
        · rw [hn q q0 (by omega) e]; exact hd q q0 (by omega))
      refine ⟨a, b, fun j hj => ?_⟩
      rw [d j hj]
      unfold comesF
      rw [up1_n (by omega), up1_n (by omega)]
      by_cases e1 : j = 120 + p
      · rw [e1, up1_s]
      · rw [up1_n e1]
        by_cases e2 : j = 80 + p
        · rw [e2, up1_s]
        · rw [up1_n e2]
          by_cases e3 : j = 40 + p
          · rw [e3, up1_s]
          · rw [up1_n e3, up1_n (by omega)]
    · rw [if_neg c]
      obtain ⟨a, b, d⟩ := ih (p + 1) h (by omega) (by omega) hi (fun q q0 q1 => hz q (by omega) q1) (fun q q0 q1 => by
        by_cases e : q = p
        · rw [e, hz p (by omega) p1]; rcases h01 p p0 p1 with z | z
          · exact z.symm
          · exact absurd z c
        · exact hd q q0 (by omega))
      exact ⟨a, b, d⟩
theorem inv_anew {f : Int → Int} (hi : invF f) : invF (anewF f) ∧ (∀ q, 0 ≤ q → q < 40 → anewF f q = f q) ∧ (∀ j, (40 ≤ j ∧ j < 160) ∨ 240 ≤ j → anewF f j = f j) := by
  have hz : ∀ q, 0 ≤ q → q < 40 → cpF (fun _ => 0) f 40 q = 0 := fun q q0 q1 => by unfold cpF; rw [if_pos ⟨q0, q1⟩]
  obtain ⟨a, b, c⟩ := inv_anewL (f0 := f) hi.1 40 0 (cpF (fun _ => 0) f 40) (by omega) (by omega) (inv_empty (wfc_cp hi.2.1) hz) (fun q q0 q1 => hz q (by omega) q1) (fun q q0 q1 => by omega)
  refine ⟨a, b, fun j hj => ?_⟩
  unfold anewF
  rw [c j hj]
  unfold cpF
  rw [if_neg (by omega)]
section M16
variable {n : Nat} {σ : sxS} {K : Option sxV → sxT → sxS → Prop}
def byC (s f : Int → Int) (m : Int) : Prop := s 6 ≠ 0 ∧ (0 ≤ m ∧ m ≤ 2) ∧ f 480 ≠ m
theorem wfc_480 {f : Int → Int} {m : Int} (hw : wfc f) : wfc (up1 f 480 m) := wfc_up hw (by omega)
theorem x273t {m : Int} (hw : wfc (σ 150)) (u0 : 0 ≤ σ 149 4) (u1 : σ 149 4 ≤ 20) (h : byC (σ 149) (σ 150) m) : Rn 273 0 [some (vR 149), some (vI m)] [] (T0 n) σ K ↔ K (some (vI 1)) (T0 n) (sc (sc (remS σ) 150 (anewF (up1 (σ 150) 480 m))) 153 (cpF (up1 (σ 150) 480 m) (σ 153) 40)) := by
  refine Rn_iff fun K hK => ?_
  have e : remS σ 150 = σ 150 := remS_at (by decide) (by decide)
  have e3 : remS σ 153 = σ 153 := remS_at (by decide) (by decide)
  have hr : sc (sc σ 151 (keptF (σ 151) (σ 150) (σ 149 4))) 149 (up1 (σ 149) 4 (if σ 149 4 = 20 then 20 else σ 149 4 + 1)) = remS σ := rfl
  unfold byC at h
  simp only [s273_0, s273_1, s273_4, s273_7, s273_8, s273_9, s273_10, s273_13, s273_16, s273_17, s273_20, s273_23, s273_24, s273_25, s273_28, s273_29, s273_30, s273_33, s273_34, s273_35, s273_38, s273_39, s273_42, s273_45, s273_46, s273_47, s273_48, s273_51, s273_52, sx_push, tf, List.length_cons, List.length_nil, Option.some.injEq, exists_eq_left', Nat.reduceAdd, Nat.reduceLeDiff, true_and, and_true, true_or, or_true, Int.zero_add, Nat.zero_le, eq_self, ne_eq, not_true_eq_false, not_false_eq_true, false_implies, true_implies, implies_true, b2i_0, b2i_1, b2i_01, up_sc, sc_at, sc_sc, ite_true, ite_false, if_true, if_false, Nat.reduceEqDiff, reduceIte, x185, x268 u0 u1, hr, e, e3, x260 (σ := sc (remS σ) 150 (up1 (σ 150) 480 m)) (by simp only [sc_at, reduceIte]; exact wfc_480 hw)]
  repeat' (first | intro _ | refine And.intro ?_ ?_)
  all_goals first | exact hK | (exfalso; contradiction) | omega
theorem x273f {m : Int} (hr : inI (σ 155 3 + 1)) (h : ¬ byC (σ 149) (σ 150) m) : Rn 273 0 [some (vR 149), some (vI m)] [] (T0 n) σ K ↔ K (some (vI 0)) (T0 n) (sc σ 155 (up1 (σ 155) 3 (σ 155 3 + 1))) := by
  refine Rn_iff fun K hK => ?_
  unfold byC at h
  simp only [s273_0, s273_1, s273_4, s273_7, s273_8, s273_9, s273_10, s273_13, s273_16, s273_17, s273_20, s273_23, s273_24, s273_25, s273_28, s273_29, s273_30, s273_33, sx_push, tf, List.length_cons, List.length_nil, Option.some.injEq, exists_eq_left', Nat.reduceAdd, Nat.reduceLeDiff, true_and, and_true, true_or, or_true, Int.zero_add, Nat.zero_le, eq_self, ne_eq, not_true_eq_false, not_false_eq_true, false_implies, true_implies, implies_true, b2i_0, b2i_1, b2i_01, up_sc, sc_at, sc_sc, ite_true, ite_false, if_true, if_false, Nat.reduceEqDiff, reduceIte, x185, x172 (w := 3) (by omega) (by omega) hr]
  repeat' (first | intro _ | refine And.intro ?_ ?_)
  all_goals first | exact hK | (exfalso; contradiction) | omega
theorem x259f {w : Int} (h : ¬ (0 ≤ w ∧ w ≤ 1)) : Rn 259 0 [some (vR 149), some (vI w), none] [] (T0 n) σ K ↔ K (some (vI (-1))) (T0 n) σ := by
  refine Rn_iff fun K hK => ?_
  simp only [s259_0, s259_1, s259_2, s259_3, s259_6, s259_9, s259_10, sx_push, tf, List.length_cons, List.length_nil, Option.some.injEq, exists_eq_left', Nat.reduceAdd, Nat.reduceLeDiff, true_and, and_true, true_or, or_true, Int.zero_add, Nat.zero_le, eq_self, ne_eq, not_true_eq_false, not_false_eq_true, false_implies, true_implies, implies_true, b2i_0, b2i_1, b2i_01, up_sc, sc_at, sc_sc, ite_true, ite_false, if_true, if_false, Nat.reduceEqDiff, reduceIte, x185]
  repeat' (first | intro _ | refine And.intro ?_ ?_)
  all_goals first | exact hK | (exfalso; contradiction) | omega
theorem x274f (hr : inI (σ 155 3 + 1)) (h : rootF (σ 150) 40 0 = -1) : Rn 274 0 [some (vR 149)] [] (T0 n) σ K ↔ K (some (vI (-1))) (T0 n) (sc σ 155 (up1 (σ 155) 3 (σ 155 3 + 1))) := by
  refine Rn_iff fun K hK => ?_
  simp only [s274_0, s274_1, s274_4, s274_5, s274_8, s274_9, s274_10, s274_13, sx_push, tf, List.length_cons, List.length_nil, Option.some.injEq, exists_eq_left', Nat.reduceAdd, Nat.reduceLeDiff, true_and, and_true, true_or, or_true, Int.zero_add, Nat.zero_le, eq_self, ne_eq, not_true_eq_false, not_false_eq_true, false_implies, true_implies, implies_true, b2i_0, b2i_1, b2i_01, up_sc, sc_at, sc_sc, ite_true, ite_false, if_true, if_false, Nat.reduceEqDiff, reduceIte, x203, h, x169 (w := 3) (by omega) (by omega) hr]
  repeat' (first | intro _ | refine And.intro ?_ ?_)
  all_goals first | exact hK | (exfalso; contradiction) | omega
end M16
