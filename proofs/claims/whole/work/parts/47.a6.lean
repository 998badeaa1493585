/-! what would be: goes, anew -/
section A6
variable {n : Nat} {c : Int} {σ : sxS} {K : Option sxV → sxT → sxS → Prop}
theorem Rel_tr {σ σ' : sxS} (h : Rel c σ) (hk : ∀ k, ¬ scr k → k ≠ 150 → σ' k = σ k) (h149 : σ' 149 = σ 149) (h150 : agr (σ 150) (σ' 150)) (h4 : σ' 4 = σ 4) (h126 : σ' 126 = σ 126) : Rel (c + 1) σ' ∧ σ' 0 = σ 0 := by
  have h' := h
  obtain ⟨hP, hO, hM, hH, hT, hR, hS, hF, hQ, hV, hI, hG, hW⟩ := h'
  refine ⟨Rel_pt h (by omega) (fun k k1 k2 => hk k k1 (by unfold ptc at k2; omega)) (fun j _ _ => by rw [h149]) ?_ (rowOk_cg h150 hO) ?_ ?_ h4 h126 (hk 156 (by unfold scr; omega) (by omega)), hk 0 (by unfold scr; omega) (by omega)⟩
  · exact PT_cells (fun k k1 k2 => hk k (by unfold scr; omega) (by omega)) (PT_cg h150 hP)
  · rw [h149, hk 7 (by unfold scr; omega) (by omega)]
    unfold relM
    rw [← h150 480 (by omega) (by omega)]
    rcases hM with a | ⟨a1, a2, a3⟩
    · exact Or.inl a
    · exact Or.inr ⟨a1, a2, fun p p0 p1 => by rw [← h150 p p0 (by omega)]; exact a3 p p0 p1⟩
  · exact relH_cg hH (hk 17 (by unfold scr; omega) (by omega)) (fun k k1 k2 => hk k (by unfold scr; omega) (by omega)) (hk 151 (by unfold scr; omega) (by omega)) (by rw [h149]) (by rw [h149])
def goesS (f : Int → Int) (p w : Int) : Int := if w = 0 then othF f (goesF f p) 200 else if w = 1 then othF f (goesF f p) 160 else if w = 2 then rootF (goesF f p) 40 0 else -1
theorem x252t {p w : Int} (hw : wfc (σ 150)) (ht : tree (σ 150)) (h1 : oneRoot (σ 150)) (hp : thereP (σ 150) p) (hw2 : 0 ≤ w ∧ w ≤ 2) (hK : ∀ σ', (∀ k, k ≠ 150 → k ≠ 152 → k ≠ 159 → σ' k = σ k) → agr (σ 150) (σ' 150) → K (some (vI (goesS (σ 150) p w))) (T0 n) σ') : Rn 252 0 [some (vR 149), some (vI p), some (vI w), none] [] (T0 n) σ K := by
  obtain ⟨⟨p0, p1⟩, p2⟩ := hp
  simp only [s252_0, s252_1, s252_2, s252_5, s252_8, s252_9, s252_10, s252_11, s252_14, s252_17, s252_18, s252_19, s252_20, s252_23, s252_24, s252_25, sx_push, tf, List.length_cons, List.length_nil, Option.some.injEq, exists_eq_left', Nat.reduceAdd, Nat.reduceLeDiff, true_and, and_true, true_or, or_true, Int.zero_add, Nat.zero_le, eq_self, ne_eq, not_true_eq_false, not_false_eq_true, false_implies, true_implies, implies_true, b2i_0, b2i_1, b2i_01, up_sc, sc_at, sc_sc, ite_true, ite_false, if_true, if_false, Nat.reduceEqDiff, reduceIte, x205, p0, p1, p2, and_self, x185, hw2.1, hw2.2, x253]
  repeat' (first | intro _ | refine And.intro ?_ ?_)
  all_goals first | omega | (exfalso; rename_i z1; exact z1 trivial) | skip
  refine x254 p0 p1 (by simpa [sc_at] using p2) (by simpa [sc_at] using hw) (by simpa [sc_at] using ht) (by simpa [sc_at] using h1) (fun σ1 a1 a2 => ?_)
  have a150 : σ1 150 = goesF (σ 150) p := by rw [a1]; simp [sc_at]
  have a152 : σ1 152 = cpF (σ 150) (σ 152) 481 := by rw [a2 152 (by omega) (by omega)]; simp [sc_at]
  unfold goesS at hK
  generalize goesF (σ 150) p = A at *
  simp only [s252_28, s252_29, s252_32, s252_33, s252_36, s252_39, s252_42, s252_43, s252_44, s252_47, s252_48, s252_51, s252_54, s252_57, s252_58, s252_61, s252_62, s252_63, s252_66, s252_67, sx_push, tf, List.length_cons, List.length_nil, Option.some.injEq, exists_eq_left', Nat.reduceAdd, Nat.reduceLeDiff, true_and, and_true, true_or, or_true, Int.zero_add, Nat.zero_le, eq_self, ne_eq, not_true_eq_false, not_false_eq_true, false_implies, true_implies, implies_true, b2i_0, b2i_1, b2i_01, up_sc, sc_at, sc_sc, ite_true, ite_false, if_true, if_false, Nat.reduceEqDiff, reduceIte, x257 (w := 160) (Or.inl rfl), x257 (w := 200) (Or.inr rfl), x203, x258]
  have e1 : cnt (fun p => decide (σ1 150 p = 1 ∧ ¬ σ1 150 (160 + p) = σ1 152 (160 + p))) 40 0 0 = othF (σ 150) A 160 := cnt_oth (fun q q0 q1 => by
    rw [decide_eq_true_eq, a150, a152]; unfold cpF; rw [if_pos (by omega)])
  have e2 : cnt (fun p => decide (σ1 150 p = 1 ∧ ¬ σ1 150 (200 + p) = σ1 152 (200 + p))) 40 0 0 = othF (σ 150) A 200 := cnt_oth (fun q q0 q1 => by
    rw [decide_eq_true_eq, a150, a152]; unfold cpF; rw [if_pos (by omega)])
  have e3 : rootF (σ1 150) 40 0 = rootF A 40 0 := by rw [a150]
  have fin : ∀ K' : sxS → Prop, (∀ σ', (∀ k, k ≠ 150 → k ≠ 152 → k ≠ 159 → σ' k = σ k) → agr (σ 150) (σ' 150) → K' σ') → K' (sc σ1 150 (cpF (σ1 152) (σ1 150) 481)) := fun K' hK' => by
    refine hK' _ (fun k k1 k2 k3 => ?_) (fun j j0 j1 => ?_)
    · rw [sc_at, if_neg k1, a2 k k1 k3, sc_at, if_neg k2]
    · rw [sc_at, if_pos rfl, a152]
      unfold cpF
      rw [if_pos ⟨j0, j1⟩, if_pos ⟨j0, j1⟩]
  generalize cnt (fun p => decide (σ1 150 p = 1 ∧ ¬ σ1 150 (160 + p) = σ1 152 (160 + p))) 40 0 0 = t1 at *
  generalize cnt (fun p => decide (σ1 150 p = 1 ∧ ¬ σ1 150 (200 + p) = σ1 152 (200 + p))) 40 0 0 = t2 at *
  generalize rootF (σ1 150) 40 0 = t3 at *
  generalize othF (σ 150) A 160 = r1 at *
  generalize othF (σ 150) A 200 = r2 at *
  generalize rootF A 40 0 = r3 at *
  subst e1 e2 e3
  rcases (show w = 0 ∨ w = 1 ∨ w = 2 by omega) with z | z | z <;> subst z
  · rw [if_pos rfl] at hK
    repeat' (first | intro _ | refine And.intro ?_ ?_)
    all_goals first | omega | exact fin _ hK | contradiction
  · rw [if_neg (by omega), if_pos rfl] at hK
    repeat' (first | intro _ | refine And.intro ?_ ?_)
    all_goals first | omega | exact fin _ hK | contradiction
  · rw [if_neg (by omega), if_neg (by omega), if_pos rfl] at hK
    repeat' (first | intro _ | refine And.intro ?_ ?_)
    all_goals first | omega | exact fin _ hK | contradiction
theorem x252f {p w : Int} (h : ¬ (thereP (σ 150) p ∧ 0 ≤ w ∧ w ≤ 2)) : Rn 252 0 [some (vR 149), some (vI p), some (vI w), none] [] (T0 n) σ K ↔ K (some (vI (-1))) (T0 n) σ := by
  refine Rn_iff fun K hK => ?_
  simp only [s252_0, s252_1, s252_2, s252_5, s252_8, s252_9, s252_10, s252_11, s252_14, s252_17, s252_18, sx_push, tf, List.length_cons, List.length_nil, Option.some.injEq, exists_eq_left', Nat.reduceAdd, Nat.reduceLeDiff, true_and, and_true, true_or, or_true, Int.zero_add, Nat.zero_le, eq_self, ne_eq, not_true_eq_false, not_false_eq_true, false_implies, true_implies, implies_true, b2i_0, b2i_1, b2i_01, up_sc, sc_at, sc_sc, ite_true, ite_false, if_true, if_false, Nat.reduceEqDiff, reduceIte, x205, x185]
  unfold thereP at h
  repeat' (first | intro _ | refine And.intro ?_ ?_)
  all_goals first | exact hK | omega
theorem cl30 {p w : Int} : call2 n c 124 252 [some (vR 1), some (vI p), some (vI w)] [some (vR 149), some (vI p), some (vI w), none] := fun σ h => by
  have h' := h
  obtain ⟨hP, hO, hM, hH, hT, hR, hS, hF, hQ, hV, hI, hG, hW⟩ := h'
  by_cases e : thereP (σ 150) p
  · have e' := e
    obtain ⟨⟨p0, p1⟩, p2⟩ := e'
    simp only [s124_0, s124_1, s124_4, s124_5, s124_8, s124_11, s124_12, s124_13, s124_14, s124_17, s124_18, s124_21, sx_push, tf, List.length_cons, List.length_nil, Option.some.injEq, exists_eq_left', Nat.reduceAdd, Nat.reduceLeDiff, true_and, and_true, true_or, or_true, Int.zero_add, Nat.zero_le, eq_self, ne_eq, not_true_eq_false, not_false_eq_true, false_implies, true_implies, implies_true, b2i_0, b2i_1, b2i_01, up_sc, sc_at, sc_sc, ite_true, ite_false, if_true, if_false, Nat.reduceEqDiff, reduceIte, tp isP12, x49 isP7 hP.1.1, p0, p1, p2, and_self]
    repeat' (first | intro _ | refine And.intro ?_ ?_)
    all_goals first | omega | (exfalso; rename_i z1; exact z1 trivial) | skip
    refine x125 isP12 isP7 (by omega) (fun σ1 a1 a2 => ?_)
    have hPt := PT_cpd a2 hP
    simp only [s124_24, s124_25, s124_28, s124_29, sx_push, tf, List.length_cons, List.length_nil, Option.some.injEq, exists_eq_left', Nat.reduceAdd, Nat.reduceLeDiff, true_and, and_true, true_or, or_true, Int.zero_add, Nat.zero_le, eq_self, ne_eq, not_true_eq_false, not_false_eq_true, false_implies, true_implies, implies_true, b2i_0, b2i_1, b2i_01, up_sc, sc_at, sc_sc, ite_true, ite_false, if_true, if_false, Nat.reduceEqDiff, reduceIte, tp isP12]
    refine x126 isP12 hPt.1 hO.1 hO.2.1 hPt.2.1 p0 p1 p2 (fun σ2 b1 b2 b3 b4 b5 => ?_)
    have q2 : ∀ k, (k < 12 ∨ 16 < k) → σ2 k = σ k := fun k hk => by rw [b1 k (by omega), a1 k (by omega)]
    have hP2 : PT σ2 7 (σ 150) := PT_cells (fun k k1 k2 => q2 k (by omega)) hP
    have ig := inv_goes hO.1 p0 p1 p2
    have sub : ∀ q, 0 ≤ q → q < 40 → goesF (σ 150) p q = 1 → σ 150 q = 1 := fun q q0 q1 z => by
      rw [ig.2 q q0 q1] at z
      split at z
      · cases z
      · exact z
    have b41 := b4.1
    have b42 := b4.2.1
    have b43 := b4.2.2.1
    generalize hA : goesF (σ 150) p = A at *
    have r1 : cnt (fun p => decide (0 ≤ σ2 9 p ∧ 0 ≤ σ2 14 p ∧ ¬ σ2 9 p = σ2 14 p)) 40 0 0 = othF (σ 150) A 160 := cnt_oth (fun q q0 q1 => decide_eq_true_iff.trans (oth_i (rL_w hP2.1.1) (rL_w b41) sub (rL_v hP2.1.1) (rL_v b41) q q0 q1))
    have r2 : cnt (fun p => decide (0 ≤ σ2 9 p ∧ 0 ≤ σ2 14 p ∧ ¬ σ2 10 p = σ2 15 p)) 40 0 0 = othF (σ 150) A 200 := cnt_oth (fun q q0 q1 => decide_eq_true_iff.trans (oth_i (rL_w hP2.1.1) (rL_w b41) sub hP2.1.2.1 b42 q q0 q1))
    have fin : ∀ v, v = goesS (σ 150) p w → ∃ v', vI v = vI v' ∧ Rn 252 0 [some (vR 149), some (vI p), some (vI w), none] [] (T0 n) σ2 (fun r2 T2 σ3 => T2 = T0 n ∧ r2 = some (vI v') ∧ Rel (c + 1) σ3 ∧ σ3 0 = σ 0) := fun v hv => by
      refine ⟨v, rfl, ?_⟩
      have g150 : σ2 150 = σ 150 := q2 150 (by omega)
      have hR2 : Rel c σ2 := Rel_cg h (fun k hk => q2 k (by unfold scr at hk; omega)) (by rw [q2 149 (by omega)]; exact f149_rfl) (by rw [q2 4 (by omega)]; exact ⟨rfl, rfl⟩) (by rw [q2 126 (by omega)])
      by_cases e2 : 0 ≤ w ∧ w ≤ 2
      · refine x252t (by rw [g150]; exact hO.1.2.1) (by rw [g150]; exact hO.1.2.2.1) (by rw [g150]; exact hO.1.2.2.2) (by rw [g150]; exact e) e2 (fun σ3 d1 d2 => ?_)
        rw [g150, ← hv]
        refine ⟨rfl, rfl, ?_⟩
        have := Rel_tr hR2 (σ' := σ3) (fun k k1 k2 => d1 k k2 (by unfold scr at k1; omega) (by unfold scr at k1; omega)) (d1 149 (by omega) (by omega) (by omega)) d2 (d1 4 (by omega) (by omega) (by omega)) (by rw [d1 126 (by omega) (by omega) (by omega)])
        exact ⟨this.1, this.2.trans (q2 0 (by omega))⟩
      · rw [x252f (fun z => e2 z.2)]
        have : v = -1 := by rw [hv]; unfold goesS; rw [if_neg (by omega), if_neg (by omega), if_neg (by omega)]
        rw [this]
        exact ⟨rfl, rfl, Rel_w hR2 (by omega), q2 0 (by omega)⟩
    simp only [s124_32, s124_33, s124_60, s124_61, s124_64, s124_65, s124_68, s124_71, s124_72, s124_73, s124_76, s124_77, s124_80, s124_83, s124_84, s124_85, s124_88, s124_91, s124_92, s124_93, sx_push, tf, List.length_cons, List.length_nil, Option.some.injEq, exists_eq_left', Nat.reduceAdd, Nat.reduceLeDiff, true_and, and_true, true_or, or_true, Int.zero_add, Nat.zero_le, eq_self, ne_eq, not_true_eq_false, not_false_eq_true, false_implies, true_implies, implies_true, b2i_0, b2i_1, b2i_01, up_sc, sc_at, sc_sc, ite_true, ite_false, if_true, if_false, Nat.reduceEqDiff, reduceIte, sx_sw, tp isP12, x127 isP7 isP12, x128 isP7 isP12]
    unfold goesS at fin
    rw [hA] at fin
    generalize cnt (fun p => decide (0 ≤ σ2 9 p ∧ 0 ≤ σ2 14 p ∧ ¬ σ2 9 p = σ2 14 p)) 40 0 0 = t1 at *
    generalize cnt (fun p => decide (0 ≤ σ2 9 p ∧ 0 ≤ σ2 14 p ∧ ¬ σ2 10 p = σ2 15 p)) 40 0 0 = t2 at *
    generalize othF (σ 150) A 160 = s1 at *
    generalize othF (σ 150) A 200 = s2 at *
    generalize rootF A 40 0 = s3 at *
    repeat' (first | intro _ | refine And.intro ?_ ?_)
    all_goals first | (refine fin _ ?_; (repeat' split) <;> first | rfl | assumption | omega) | omega
  · have x124f : ∀ K : Option sxV → sxT → sxS → Prop, K (some (vI (-1))) (T0 n) σ → Rn 124 0 [some (vR 1), some (vI p), some (vI w)] [] (T0 n) σ K := fun K hK => by
      simp only [s124_0, s124_1, s124_4, s124_5, s124_8, s124_11, s124_12, sx_push, tf, List.length_cons, List.length_nil, Option.some.injEq, exists_eq_left', Nat.reduceAdd, Nat.reduceLeDiff, true_and, and_true, true_or, or_true, Int.zero_add, Nat.zero_le, eq_self, ne_eq, not_true_eq_false, not_false_eq_true, false_implies, true_implies, implies_true, b2i_0, b2i_1, b2i_01, up_sc, sc_at, sc_sc, ite_true, ite_false, if_true, if_false, Nat.reduceEqDiff, reduceIte, x49 isP7 hP.1.1]
      repeat' (first | intro _ | refine And.intro ?_ ?_)
      all_goals first | exact hK | (exfalso; rename_i z1; exact e (Classical.not_not.mp z1)) | omega
    refine x124f _ ⟨rfl, _, rfl, ?_⟩
    rw [x252f (fun z => e z.1)]
    exact ⟨rfl, rfl, Rel_w h (by omega), rfl⟩
def anewS (f : Int → Int) (w : Int) : Int := if w = 0 then othF f (anewF f) 160 else if w = 1 then othF f (anewF f) 200 else -1
theorem x259t {w : Int} (hw : wfc (σ 150)) (h : 0 ≤ w ∧ w ≤ 1) (hK : ∀ σ', (∀ k, k ≠ 150 → k ≠ 152 → k ≠ 153 → σ' k = σ k) → agr (σ 150) (σ' 150) → K (some (vI (anewS (σ 150) w))) (T0 n) σ') : Rn 259 0 [some (vR 149), some (vI w), none] [] (T0 n) σ K := by
  simp only [s259_0, s259_1, s259_2, s259_3, s259_6, s259_9, s259_10, s259_11, s259_12, sx_push, tf, List.length_cons, List.length_nil, Option.some.injEq, exists_eq_left', Nat.reduceAdd, Nat.reduceLeDiff, true_and, and_true, true_or, or_true, Int.zero_add, Nat.zero_le, eq_self, ne_eq, not_true_eq_false, not_false_eq_true, false_implies, true_implies, implies_true, b2i_0, b2i_1, b2i_01, up_sc, sc_at, sc_sc, ite_true, ite_false, if_true, if_false, Nat.reduceEqDiff, reduceIte, x185, h.1, h.2, and_self, x253]
  repeat' (first | intro _ | refine And.intro ?_ ?_)
  all_goals first | omega | (exfalso; rename_i z1; exact z1 trivial) | skip
  simp only [s259_15, s259_16, sx_push, tf, List.length_cons, List.length_nil, Option.some.injEq, exists_eq_left', Nat.reduceAdd, Nat.reduceLeDiff, true_and, and_true, true_or, or_true, Int.zero_add, Nat.zero_le, eq_self, ne_eq, not_true_eq_false, not_false_eq_true, false_implies, true_implies, implies_true, b2i_0, b2i_1, b2i_01, up_sc, sc_at, sc_sc, ite_true, ite_false, if_true, if_false, Nat.reduceEqDiff, reduceIte]
  refine x260k (by simp [sc_at]; exact hw) (fun σ1 a1 a2 => ?_)
  have e150 : sc σ 152 (cpF (σ 150) (σ 152) 481) 150 = σ 150 := by simp [sc_at]
  rw [e150] at a1
  have e152 : σ1 152 = cpF (σ 150) (σ 152) 481 := by rw [a2 152 (by decide) (by decide)]; simp [sc_at]
  unfold anewS at hK
  generalize anewF (σ 150) = A at *
  simp only [s259_19, s259_20, s259_21, s259_24, s259_27, s259_30, s259_33, s259_36, s259_37, s259_38, s259_41, s259_42, sx_push, tf, List.length_cons, List.length_nil, Option.some.injEq, exists_eq_left', Nat.reduceAdd, Nat.reduceLeDiff, true_and, and_true, true_or, or_true, Int.zero_add, Nat.zero_le, eq_self, ne_eq, not_true_eq_false, not_false_eq_true, false_implies, true_implies, implies_true, b2i_0, b2i_1, b2i_01, up_sc, sc_at, sc_sc, ite_true, ite_false, if_true, if_false, Nat.reduceEqDiff, reduceIte, x257 (w := 160) (Or.inl rfl), x257 (w := 200) (Or.inr rfl), x258]
  have e1 : cnt (fun p => decide (σ1 150 p = 1 ∧ ¬ σ1 150 (160 + p) = σ1 152 (160 + p))) 40 0 0 = othF (σ 150) A 160 := cnt_oth (fun q q0 q1 => by
    rw [decide_eq_true_eq, a1, e152]; unfold cpF; rw [if_pos (by omega)])
  have e2 : cnt (fun p => decide (σ1 150 p = 1 ∧ ¬ σ1 150 (200 + p) = σ1 152 (200 + p))) 40 0 0 = othF (σ 150) A 200 := cnt_oth (fun q q0 q1 => by
    rw [decide_eq_true_eq, a1, e152]; unfold cpF; rw [if_pos (by omega)])
  have fin : ∀ K' : sxS → Prop, (∀ σ', (∀ k, k ≠ 150 → k ≠ 152 → k ≠ 153 → σ' k = σ k) → agr (σ 150) (σ' 150) → K' σ') → K' (sc σ1 150 (cpF (σ1 152) (σ1 150) 481)) := fun K' hK' => by
    refine hK' _ (fun k k1 k2 k3 => ?_) (fun j j0 j1 => ?_)
    · rw [sc_at, if_neg k1, a2 k k1 k3, sc_at, if_neg k2]
    · rw [sc_at, if_pos rfl, e152]
      unfold cpF
      rw [if_pos ⟨j0, j1⟩, if_pos ⟨j0, j1⟩]
  generalize cnt (fun p => decide (σ1 150 p = 1 ∧ ¬ σ1 150 (160 + p) = σ1 152 (160 + p))) 40 0 0 = t1 at *
  generalize cnt (fun p => decide (σ1 150 p = 1 ∧ ¬ σ1 150 (200 + p) = σ1 152 (200 + p))) 40 0 0 = t2 at *
  generalize othF (σ 150) A 160 = r1 at *
  generalize othF (σ 150) A 200 = r2 at *
  subst e1 e2
  rcases (show w = 0 ∨ w = 1 by omega) with z | z <;> subst z
  · rw [if_pos rfl] at hK
    repeat' (first | intro _ | refine And.intro ?_ ?_)
    all_goals first | omega | exact fin _ hK | contradiction
  · rw [if_neg (by omega), if_pos rfl] at hK
    repeat' (first | intro _ | refine And.intro ?_ ?_)
    all_goals first | omega | exact fin _ hK | contradiction
theorem cl31 {w : Int} : call2 n c 129 259 [some (vR 1), some (vI w)] [some (vR 149), some (vI w), none] := fun σ h => by
  have h' := h
  obtain ⟨hP, hO, hM, hH, hT, hR, hS, hF, hQ, hV, hI, hG, hW⟩ := h'
  simp only [s129_0, s129_1, s129_4, s129_5, s129_8, sx_push, tf, List.length_cons, List.length_nil, Option.some.injEq, exists_eq_left', Nat.reduceAdd, Nat.reduceLeDiff, true_and, and_true, true_or, or_true, Int.zero_add, Nat.zero_le, eq_self, ne_eq, not_true_eq_false, not_false_eq_true, false_implies, true_implies, implies_true, b2i_0, b2i_1, b2i_01, up_sc, sc_at, sc_sc, ite_true, ite_false, if_true, if_false, Nat.reduceEqDiff, reduceIte, tp isP12]
  refine x125 isP12 isP7 (by omega) (fun σ1 a1 a2 => ?_)
  have hPt := PT_cpd a2 hP
  simp only [s129_11, s129_12, s129_15, sx_push, tf, List.length_cons, List.length_nil, Option.some.injEq, exists_eq_left', Nat.reduceAdd, Nat.reduceLeDiff, true_and, and_true, true_or, or_true, Int.zero_add, Nat.zero_le, eq_self, ne_eq, not_true_eq_false, not_false_eq_true, false_implies, true_implies, implies_true, b2i_0, b2i_1, b2i_01, up_sc, sc_at, sc_sc, ite_true, ite_false, if_true, if_false, Nat.reduceEqDiff, reduceIte, tp isP12]
  refine x130 isP12 hPt.1 hO.1 hPt.2.1 (fun σ2 b1 b2 b3 b4 b5 => ?_)
  have q2 : ∀ k, (k < 12 ∨ 16 < k) → σ2 k = σ k := fun k hk => by rw [b1 k (by omega), a1 k (by omega)]
  have hP2 : PT σ2 7 (σ 150) := PT_cells (fun k k1 k2 => q2 k (by omega)) hP
  have ia := inv_anew hO.1
  have sub : ∀ q, 0 ≤ q → q < 40 → anewF (σ 150) q = 1 → σ 150 q = 1 := fun q q0 q1 z => by rw [ia.2.1 q q0 q1] at z; exact z
  have b41 := b4.1
  have b42 := b4.2.1
  generalize hA : anewF (σ 150) = A at *
  have r1 : cnt (fun p => decide (0 ≤ σ2 9 p ∧ 0 ≤ σ2 14 p ∧ ¬ σ2 9 p = σ2 14 p)) 40 0 0 = othF (σ 150) A 160 := cnt_oth (fun q q0 q1 => decide_eq_true_iff.trans (oth_i (rL_w hP2.1.1) (rL_w b41) sub (rL_v hP2.1.1) (rL_v b41) q q0 q1))
  have r2 : cnt (fun p => decide (0 ≤ σ2 9 p ∧ 0 ≤ σ2 14 p ∧ ¬ σ2 10 p = σ2 15 p)) 40 0 0 = othF (σ 150) A 200 := cnt_oth (fun q q0 q1 => decide_eq_true_iff.trans (oth_i (rL_w hP2.1.1) (rL_w b41) sub hP2.1.2.1 b42 q q0 q1))
  have fin : ∀ v, v = anewS (σ 150) w → ∃ v', vI v = vI v' ∧ Rn 259 0 [some (vR 149), some (vI w), none] [] (T0 n) σ2 (fun r2 T2 σ3 => T2 = T0 n ∧ r2 = some (vI v') ∧ Rel (c + 1) σ3 ∧ σ3 0 = σ 0) := fun v hv => by
    refine ⟨v, rfl, ?_⟩
    have g150 : σ2 150 = σ 150 := q2 150 (by omega)
    have hR2 : Rel c σ2 := Rel_cg h (fun k hk => q2 k (by unfold scr at hk; omega)) (by rw [q2 149 (by omega)]; exact f149_rfl) (by rw [q2 4 (by omega)]; exact ⟨rfl, rfl⟩) (by rw [q2 126 (by omega)])
    by_cases e2 : 0 ≤ w ∧ w ≤ 1
    · refine x259t (by rw [g150]; exact hO.1.2.1) e2 (fun σ3 d1 d2 => ?_)
      rw [g150, ← hv]
      refine ⟨rfl, rfl, ?_⟩
      have := Rel_tr hR2 (σ' := σ3) (fun k k1 k2 => d1 k k2 (by unfold scr at k1; omega) (by unfold scr at k1; omega)) (d1 149 (by omega) (by omega) (by omega)) d2 (d1 4 (by omega) (by omega) (by omega)) (by rw [d1 126 (by omega) (by omega) (by omega)])
      exact ⟨this.1, this.2.trans (q2 0 (by omega))⟩
    · rw [x259f e2]
      have : v = -1 := by rw [hv]; unfold anewS; rw [if_neg (by omega), if_neg (by omega)]
      rw [this]
      exact ⟨rfl, rfl, Rel_w hR2 (by omega), q2 0 (by omega)⟩
  simp only [s129_18, s129_19, s129_44, s129_45, s129_48, s129_49, s129_52, s129_55, s129_56, s129_57, s129_60, s129_61, s129_64, s129_67, s129_68, s129_69, sx_push, tf, List.length_cons, List.length_nil, Option.some.injEq, exists_eq_left', Nat.reduceAdd, Nat.reduceLeDiff, true_and, and_true, true_or, or_true, Int.zero_add, Nat.zero_le, eq_self, ne_eq, not_true_eq_false, not_false_eq_true, false_implies, true_implies, implies_true, b2i_0, b2i_1, b2i_01, up_sc, sc_at, sc_sc, ite_true, ite_false, if_true, if_false, Nat.reduceEqDiff, reduceIte, sx_sw, tp isP12, x127 isP7 isP12, x128 isP7 isP12]
  unfold anewS at fin
  rw [hA] at fin
  generalize cnt (fun p => decide (0 ≤ σ2 9 p ∧ 0 ≤ σ2 14 p ∧ ¬ σ2 9 p = σ2 14 p)) 40 0 0 = t1 at *
  generalize cnt (fun p => decide (0 ≤ σ2 9 p ∧ 0 ≤ σ2 14 p ∧ ¬ σ2 10 p = σ2 15 p)) 40 0 0 = t2 at *
  generalize othF (σ 150) A 160 = s1 at *
  generalize othF (σ 150) A 200 = s2 at *
  repeat' (first | intro _ | refine And.intro ?_ ?_)
  all_goals first | (refine fin _ ?_; (repeat' split) <;> first | rfl | assumption | omega) | omega
end A6
