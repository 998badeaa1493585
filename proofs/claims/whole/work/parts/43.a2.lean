/-! acts: add, drop, move, by, undo -/
section A2
variable {n : Nat} {c : Int} {σ : sxS} {K : Option sxV → sxT → sxS → Prop}
theorem Rel_m {σ : sxS} (h : Rel c σ) (hs : σ 149 6 ≠ 0) : σ 149 6 = 1 ∧ σ 7 4 = σ 150 480 := by
  rcases h.2.2.1 with a | a
  · exact a
  · exact absurd a.1 hs
theorem Rel_mp {σ : sxS} (h : Rel c σ) {p : Int} (p0 : 0 ≤ p) (p1 : p < 40) (hp : σ 150 p = 1) : σ 149 6 = 1 ∧ σ 7 4 = σ 150 480 := by
  rcases h.2.2.1 with a | ⟨a1, a2, a3⟩
  · exact a
  · have := a3 p p0 p1; omega
theorem x123 (h : Rel c σ) {x y z : Int} : Rn 123 0 [some (vR 1), some (vI (plc x y z))] [] (T0 n) σ K ↔ K (some (vI (b2i (σ 149 6 ≠ 0 ∧ ((0 ≤ x ∧ x ≤ 255) ∧ (0 ≤ y ∧ y ≤ 255) ∧ 0 ≤ z ∧ z ≤ 255) ∧ fnd (fun p => decide (σ 150 p = 1 ∧ σ 150 (40 + p) = x ∧ σ 150 (80 + p) = y ∧ σ 150 (120 + p) = z)) 40 0 = -1 ∧ fnd (fun p => decide (σ 150 p = 0)) 40 0 ≠ -1)))) (T0 n) σ := by
  refine Rn_iff fun K hK => ?_
  have h' := h
  obtain ⟨hP, hO, hM, hH, hT, hR, hS, hF, hQ, hV, hI, hG, hW⟩ := h'
  have ff := fnd_free hO.1.1 40 0 0 (by omega) (by omega)
  have ci := cntF_in hO.1.1 40 0 0 (by omega) (by omega)
  by_cases e : (0 ≤ x ∧ x ≤ 255) ∧ (0 ≤ y ∧ y ≤ 255) ∧ 0 ≤ z ∧ z ≤ 255
  · have e2 : plc x y z = pk x y z := if_pos e
    have pr := pk_rng e.1 e.2.1 e.2.2
    simp only [s123_0, s123_1, s123_4, s123_7, s123_8, s123_11, s123_12, s123_13, s123_16, s123_17, s123_20, s123_23, s123_25, s123_28, s123_29, s123_32, s123_33, s123_36, s123_37, s123_40, s123_41, s123_44, s123_45, sx_push, tf, List.length_cons, List.length_nil, Option.some.injEq, exists_eq_left', Nat.reduceAdd, Nat.reduceLeDiff, true_and, and_true, true_or, or_true, Int.zero_add, Nat.zero_le, eq_self, ne_eq, not_true_eq_false, not_false_eq_true, false_implies, true_implies, implies_true, b2i_0, b2i_1, b2i_01, up_sc, sc_at, sc_sc, ite_true, ite_false, if_true, if_false, Nat.reduceEqDiff, reduceIte, e2, hP.1.2.2.2, x58 isP7 hP.1.1 hO.1.2.1 e.1 e.2.1 e.2.2]
    generalize fnd (fun p => decide (σ 150 p = 1 ∧ σ 150 (40 + p) = x ∧ σ 150 (80 + p) = y ∧ σ 150 (120 + p) = z)) 40 0 = a at *
    generalize fnd (fun p => decide (σ 150 p = 0)) 40 0 = b at *
    have m5 := hO.2.2.2
    rcases hM with ⟨m1, m2⟩ | ⟨m1, m2, m3⟩
    · by_cases c1 : a = -1 ∧ b ≠ -1
      · rw [b2i_t ⟨by omega, e, c1⟩] at hK
        repeat' (first | intro _ | refine And.intro ?_ ?_)
        all_goals first | exact hK | omega
      · rw [b2i_f (fun z => c1 z.2.2)] at hK
        repeat' (first | intro _ | refine And.intro ?_ ?_)
        all_goals first | exact hK | omega
    · rw [b2i_f (fun z => z.1 m1)] at hK
      repeat' (first | intro _ | refine And.intro ?_ ?_)
      all_goals first | exact hK | omega
  · have e2 : plc x y z = -1 := if_neg e
    rw [b2i_f (fun z => e z.2.1)] at hK
    simp only [s123_0, s123_1, s123_4, s123_7, s123_8, s123_11, s123_12, s123_13, s123_16, s123_17, s123_20, s123_23, s123_25, s123_28, s123_29, s123_32, s123_33, s123_36, s123_37, s123_40, s123_41, s123_44, s123_45, sx_push, tf, List.length_cons, List.length_nil, Option.some.injEq, exists_eq_left', Nat.reduceAdd, Nat.reduceLeDiff, true_and, and_true, true_or, or_true, Int.zero_add, Nat.zero_le, eq_self, ne_eq, not_true_eq_false, not_false_eq_true, false_implies, true_implies, implies_true, b2i_0, b2i_1, b2i_01, up_sc, sc_at, sc_sc, ite_true, ite_false, if_true, if_false, Nat.reduceEqDiff, reduceIte, e2]
    repeat' (first | intro _ | refine And.intro ?_ ?_)
    all_goals first | exact hK | omega
theorem keep_in {σ : sxS} (h : Rel c σ) : (0 ≤ σ 17 1 ∧ σ 17 1 < 20) ∧ inI (σ 17 2 + 1) ∧ (0 ≤ σ 149 4 ∧ σ 149 4 ≤ 20) := by
  have hH := h.2.2.2.1
  obtain ⟨b1, b2, b3, b4, b5⟩ := hH
  omega
/-- behind keep: the points as they were -/
theorem kp_PT {σ σ' : sxS} {f : Int → Int} (e : ∀ k, k ≠ 17 → (k < 19 + 5 * (σ 17 1).toNat ∨ 19 + 5 * (σ 17 1).toNat + 4 < k) → σ' k = σ k) (hP : PT σ 7 f) : PT σ' 7 f := PT_cells (fun k k1 k2 => e k (by omega) (by omega)) hP
theorem Rel_act {σ σ1 σ2 σ3 : sxS} {f : Int → Int} (h : Rel c σ) (hs : σ 149 6 = 1) (hm : σ 7 4 = σ 150 480) (e : ∀ k, k ≠ 17 → (k < 19 + 5 * (σ 17 1).toNat ∨ 19 + 5 * (σ 17 1).toNat + 4 < k) → σ1 k = σ k) (hc : cpd σ σ1 (19 + 5 * (σ 17 1).toNat) 7) (e1 : σ1 17 1 = if σ 17 1 + 1 < 20 then σ 17 1 + 1 else 0) (e2 : σ1 17 2 = min 20 (σ 17 2 + 1)) (h2 : fr σ1 σ2 7 16) (hP : PT σ2 7 f) (hO : rowOk f) (hm2 : σ2 7 4 = f 480) (h3 : ∀ k, k < 149 → σ3 k = σ2 k) (h150 : σ3 150 = f) (h151 : σ3 151 = keptF (σ 151) (σ 150) (σ 149 4)) (h149 : σ3 149 = up1 (σ 149) 4 (if σ 149 4 = 20 then 20 else σ 149 4 + 1)) (hr : ∀ k, 154 ≤ k → ¬ scr k → σ3 k = σ k) : Rel (c + 1) σ3 ∧ σ3 0 = σ 0 := by
  have x := (keep_in h).1
  have q : ∀ k, ¬ scr k → ¬ ptc k → σ3 k = σ k := fun k k1 k2 => by
    unfold ptc at k2
    by_cases z : k < 149
    · rw [h3 k z, h2 k (by unfold scr at k1; omega), e k (by omega) (by omega)]
    · exact hr k (by unfold scr at k1; omega) k1
  refine ⟨Rel_pt h (by omega) q (fun j j1 _ => by rw [h149, up1_n j1]) ?_ ?_ ?_ ?_ ?_ ?_ ?_, q 0 (by unfold scr; omega) (by unfold ptc; omega)⟩
  · rw [h150]; exact PT_cells (fun k k1 k2 => h3 k (by omega)) hP
  · rw [h150]; exact hO
  · rw [h150, h3 7 (by omega)]
    exact Or.inl ⟨by rw [h149, up1_n (by omega)]; exact hs, hm2⟩
  · refine relH_keep h.2.2.2.1 h.1 h.2.1 hm (by rw [h149, up1_n (by omega)]; exact hs) ?_ ?_ (fun k k1 k2 k3 => ?_) ?_ h151 (by rw [h149, up1_s])
    · rw [h3 17 (by omega), h2 17 (by omega)]; exact e1
    · rw [h3 17 (by omega), h2 17 (by omega)]; exact e2
    · rw [h3 k (by omega), h2 k (by omega)]; exact e k (by omega) k3
    · obtain ⟨d1, d2⟩ := hc
      unfold cpd
      rw [h3 _ (by omega), h3 _ (by omega), h3 _ (by omega), h3 _ (by omega), h3 _ (by omega), h2 _ (by omega), h2 _ (by omega), h2 _ (by omega), h2 _ (by omega), h2 _ (by omega)]
      exact ⟨d1, d2⟩
  · rw [h3 4 (by omega), h2 4 (by omega), e 4 (by omega) (by omega)]
  · rw [h3 126 (by omega), h2 126 (by omega), e 126 (by omega) (by omega)]
  · exact hr 156 (by omega) (by unfold scr; omega)
theorem x141f {x y z : Int} (h : Rel c σ) (hc : c < 100000) (hn : ¬ canC (σ 149) (σ 150) x y z) : Rn 141 0 [some (vR 1), some (vI x), some (vI y), some (vI z), none, none] [] (T0 n) σ K ↔ K (some (vI (-1))) (T0 n) (sc σ 148 (up1 (σ 148) 2 (σ 148 2 + 1))) := by
  refine Rn_iff fun K hK => ?_
  simp only [s141_0, s141_1, s141_2, s141_3, s141_6, s141_8, s141_9, s141_11, s141_14, s141_17, s141_18, s141_19, s141_22, sx_push, tf, List.length_cons, List.length_nil, Option.some.injEq, exists_eq_left', Nat.reduceAdd, Nat.reduceLeDiff, true_and, and_true, true_or, or_true, Int.zero_add, Nat.zero_le, eq_self, ne_eq, not_true_eq_false, not_false_eq_true, false_implies, true_implies, implies_true, b2i_0, b2i_1, b2i_01, up_sc, sc_at, sc_sc, ite_true, ite_false, if_true, if_false, Nat.reduceEqDiff, reduceIte, x33, x123 h, x12 (n := n) (show (0 : Int) ≤ 2 by omega) (show (2 : Int) < 6 by omega) (Rel_r h hc (w := 2) (by omega) (by omega)).1]
  repeat' (first | intro _ | refine And.intro ?_ ?_)
  all_goals first | exact hK | omega | (exfalso; rename_i z1; exact hn (Classical.not_not.mp z1))
theorem cl35 {x y z : Int} (hc : c < 100000) : call2 n c 141 267 [some (vR 1), some (vI x), some (vI y), some (vI z), none, none] [some (vR 149), some (vI x), some (vI y), some (vI z)] := fun σ h => by
  have h' := h
  obtain ⟨hP, hO, hM, hH, hT, hR, hS, hF, hQ, hV, hI, hG, hW⟩ := h'
  have rr := Rel_r h hc (w := 2) (by omega) (by omega)
  have ki := keep_in h
  by_cases e : canC (σ 149) (σ 150) x y z
  · have e' := e
    obtain ⟨c1, c2, c3, c4⟩ := e'
    have m := Rel_m h c1
    have e2 : plc x y z = pk x y z := if_pos c2
    have fi := free_in (f := σ 150) c4
    have key : canC (σ 149) (σ 150) x y z := e
    unfold canC at key
    simp only [s141_0, s141_1, s141_2, s141_3, s141_6, s141_8, s141_9, s141_11, s141_14, s141_17, s141_18, s141_19, s141_22, s141_23, s141_24, s141_27, s141_28, s141_31, sx_push, tf, List.length_cons, List.length_nil, Option.some.injEq, exists_eq_left', Nat.reduceAdd, Nat.reduceLeDiff, true_and, and_true, true_or, or_true, Int.zero_add, Nat.zero_le, eq_self, ne_eq, not_true_eq_false, not_false_eq_true, false_implies, true_implies, implies_true, b2i_0, b2i_1, b2i_01, up_sc, sc_at, sc_sc, ite_true, ite_false, if_true, if_false, Nat.reduceEqDiff, reduceIte, x33, x123 h, key, and_self]
    repeat' (first | intro _ | refine And.intro ?_ ?_)
    all_goals first | omega | (exfalso; rename_i z1; exact z1 e) | skip
    refine x142 ki.1.1 ki.1.2 ki.2.1 (fun σ1 a1 a2 a3 a4 => ?_)
    have hP1 := kp_PT a1 hP
    simp only [s141_34, s141_35, s141_38, s141_41, s141_43, s141_44, s141_47, s141_49, s141_51, sx_push, tf, List.length_cons, List.length_nil, Option.some.injEq, exists_eq_left', Nat.reduceAdd, Nat.reduceLeDiff, true_and, and_true, true_or, or_true, Int.zero_add, Nat.zero_le, eq_self, ne_eq, not_true_eq_false, not_false_eq_true, false_implies, true_implies, implies_true, b2i_0, b2i_1, b2i_01, up_sc, sc_at, sc_sc, ite_true, ite_false, if_true, if_false, Nat.reduceEqDiff, reduceIte, x143 isP7 hP1.1.1, e2]
    have ag : ag2 (σ 150) (blkF (fun _ => 0) (240 + 6 * freeF (σ 150)) (σ 150) 6) := fun j hj => by unfold blkF; rw [if_neg (by omega)]
    have bl : ∀ j, (j < 240 + 6 * freeF (σ 150) ∨ 240 + 6 * freeF (σ 150) + 6 ≤ j) → blkF (fun _ => 0) (240 + 6 * freeF (σ 150)) (σ 150) 6 j = σ 150 j := fun j hj => by unfold blkF; rw [if_neg (by omega)]
    have bz : ∀ j, 240 + 6 * freeF (σ 150) ≤ j → j < 240 + 6 * freeF (σ 150) + 6 → blkF (fun _ => 0) (240 + 6 * freeF (σ 150)) (σ 150) 6 j = 0 := fun j h1 h2 => by unfold blkF; rw [if_pos (by omega)]
    have hOb : rowOk (blkF (fun _ => 0) (240 + 6 * freeF (σ 150)) (σ 150) 6) := by
      refine ⟨invF_c2 ag hO.1, rtP_c2 ag hO.2.1, fun p k a b d e => ?_, ?_, ?_⟩
      · by_cases z : p = freeF (σ 150)
        · rw [bz _ (by omega) (by omega)]; omega
        · rw [bl _ (by omega)]; exact hO.2.2.1 p k a b d e
      · rw [bl _ (by omega)]; exact hO.2.2.2.1
      · rw [bl _ (by omega)]; exact hO.2.2.2.2
    have f0 : blkF (fun _ => 0) (240 + 6 * freeF (σ 150)) (σ 150) 6 (freeF (σ 150)) = 0 := by rw [bl _ (by omega)]; exact fi.2
    refine x36 isP7 (rA_c2 ag hP1.1) (invF_c2 ag hO.1) (by rw [a1 7 (by omega) (by omega), m.2]; exact ag 480 (by omega)) fi.1.1 fi.1.2 f0 c2.1 c2.2.1 c2.2.2 (fun σ2 b1 b2 b3 b4 b5 => ?_)
    simp only [s141_54, s141_56, sx_push, tf, List.length_cons, List.length_nil, Option.some.injEq, exists_eq_left', Nat.reduceAdd, Nat.reduceLeDiff, true_and, and_true, true_or, or_true, Int.zero_add, Nat.zero_le, eq_self, ne_eq, not_true_eq_false, not_false_eq_true, false_implies, true_implies, implies_true, b2i_0, b2i_1, b2i_01, up_sc, sc_at, sc_sc, ite_true, ite_false, if_true, if_false, Nat.reduceEqDiff, reduceIte]
    refine ⟨_, rfl, ?_⟩
    have g149 : σ2 149 = σ 149 := by rw [b1 149 (by omega), a1 149 (by omega) (by omega)]
    have g150 : σ2 150 = σ 150 := by rw [b1 150 (by omega), a1 150 (by omega) (by omega)]
    have g151 : σ2 151 = σ 151 := by rw [b1 151 (by omega), a1 151 (by omega) (by omega)]
    rw [x267t (by rw [g150]; exact hO.1.2.1) (by rw [g149]; exact ki.2.2.1) (by rw [g149]; exact ki.2.2.2) (by rw [g149, g150]; exact e)]
    rw [g150]
    refine ⟨rfl, rfl, ?_⟩
    refine Rel_act (σ2 := σ2) (f := comeN (σ 150) x y z) h m.1 m.2 a1 a2 a3 a4 (fr_w b1 (by omega) (by omega)) ⟨b5, fun q q0 q1 hq => ?_, fun q q0 q1 => ?_⟩ (rowOk_comes hOb fi.1.1 fi.1.2 (by rw [f0]; decide) c2.1 c2.2.1 c2.2.2) ?_ (fun k hk => ?_) ?_ ?_ ?_ (fun k k1 k2 => ?_)
    · by_cases zq : q = freeF (σ 150)
      · subst zq
        have := (comesF_t (f := blkF (fun _ => 0) (240 + 6 * freeF (σ 150)) (σ 150) 6) (x := x) (y := y) (z := z) fi.1.1 fi.1.2).1
        unfold comeN at hq
        omega
      · unfold comeN at hq
        rw [comesF_n zq (by omega) (by omega) (by omega) (by omega) (by omega), bl _ (by omega)] at hq
        rw [(b4 q zq).2]; exact hP1.2.1 q q0 q1 hq
    · rw [b2]
      by_cases zq : q = freeF (σ 150)
      · have nq := (hP1.2.2 q q0 q1).2 (by rw [zq, fi.2]; decide)
        rw [nq]
        refine ⟨fun _ => ?_, fun _ => rfl⟩
        unfold nmF comeN
        rw [comesF_n (by omega) (by omega) (by omega) (by omega) (by omega) (by omega), comesF_n (by omega) (by omega) (by omega) (by omega) (by omega) (by omega), comesF_n (by omega) (by omega) (by omega) (by omega) (by omega) (by omega), comesF_n (by omega) (by omega) (by omega) (by omega) (by omega) (by omega), comesF_n (by omega) (by omega) (by omega) (by omega) (by omega) (by omega), comesF_n (by omega) (by omega) (by omega) (by omega) (by omega) (by omega), bz _ (by omega) (by omega), bz _ (by omega) (by omega), bz _ (by omega) (by omega), bz _ (by omega) (by omega), bz _ (by omega) (by omega), bz _ (by omega) (by omega)]
        rfl
      · have e3 : comeN (σ 150) x y z q = σ 150 q := by unfold comeN; rw [comesF_n zq (by omega) (by omega) (by omega) (by omega) (by omega), bl _ (by omega)]
        have e4 : nmF (comeN (σ 150) x y z) q = nmF (σ 150) q := by
          unfold nmF comeN
          rw [comesF_n (by omega) (by omega) (by omega) (by omega) (by omega) (by omega), comesF_n (by omega) (by omega) (by omega) (by omega) (by omega) (by omega), comesF_n (by omega) (by omega) (by omega) (by omega) (by omega) (by omega), comesF_n (by omega) (by omega) (by omega) (by omega) (by omega) (by omega), comesF_n (by omega) (by omega) (by omega) (by omega) (by omega) (by omega), comesF_n (by omega) (by omega) (by omega) (by omega) (by omega) (by omega), bl _ (by omega), bl _ (by omega), bl _ (by omega), bl _ (by omega), bl _ (by omega), bl _ (by omega)]
        rw [e3, e4]
        exact hP1.2.2 q q0 q1
    · unfold comeN
      rw [b3, a1 7 (by omega) (by omega), m.2, comesF_n (by omega) (by omega) (by omega) (by omega) (by omega) (by omega), bl _ (by omega)]
    · rw [sc_at, if_neg (by omega), remS_at (by omega) (by omega)]
    · rw [sc_at, if_pos rfl]
    · rw [sc_at, if_neg (by decide)]; simp only [remS, sc_at]; simp [g149, g150, g151]
    · rw [sc_at, if_neg (by decide)]; simp only [remS, sc_at]; simp [g149]
    · unfold scr at k2
      rw [sc_at, if_neg (by omega), remS_at (by omega) (by omega), b1 k (by omega), a1 k (by omega) (by omega)]
  · rw [x141f h hc e]
    refine ⟨rfl, _, rfl, ?_⟩
    rw [x267f (by simpa [sc_at] using rr.2) (by simpa [sc_at] using e)]
    refine ⟨rfl, rfl, ?_, by simp [sc_at]⟩
    have := Rel_ref h (w := 2) (by omega) (by omega)
    simpa [sc_at] using this
end A2
