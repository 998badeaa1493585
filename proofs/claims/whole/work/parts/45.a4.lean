/-! acts: by, lay, undo; what would be: comes, goes, anew -/
def ag3 (f g : Int → Int) : Prop := ∀ j, 0 ≤ j ∧ j < 240 → f j = g j
theorem th01_c3 {f g : Int → Int} (h : ag3 f g) (hf : th01 f) : th01 g := fun p a b => by rw [← h p (by omega)]; exact hf p a b
theorem wfc_c3 {f g : Int → Int} (h : ag3 f g) (hf : wfc f) : wfc g := fun p a b => by
  rw [← h (40 + p) (by omega), ← h (80 + p) (by omega), ← h (120 + p) (by omega)]; exact hf p a b
theorem tree_c3 {f g : Int → Int} (h : ag3 f g) (hf : tree f) : tree g := fun p a b hp => by
  rw [← h p (by omega)] at hp
  have t := hf p a b hp
  rw [← h (160 + p) (by omega), ← h (200 + p) (by omega)]
  refine ⟨t.1, t.2.1, fun z => ?_⟩
  have t2 := t.2.2 z
  rw [← h (f (200 + p)) (by omega), ← h (160 + f (200 + p)) (by omega)]
  exact t2
theorem oneRoot_c3 {f g : Int → Int} (h : ag3 f g) (hf : oneRoot f) : oneRoot g := by
  refine ⟨fun p q a b c d => ?_, fun p a b hp => ?_⟩
  · rw [← h p (by omega), ← h q (by omega), ← h (160 + p) (by omega), ← h (160 + q) (by omega)]
    exact hf.1 p q a b c d
  · rw [← h p (by omega)] at hp
    obtain ⟨r, r0, r1, r2, r3⟩ := hf.2 p a b hp
    exact ⟨r, r0, r1, by rw [← h r (by omega)]; exact r2, by rw [← h (160 + r) (by omega)]; exact r3⟩
theorem invF_c3 {f g : Int → Int} (h : ag3 f g) (hf : invF f) : invF g := ⟨th01_c3 h hf.1, wfc_c3 h hf.2.1, tree_c3 h hf.2.2.1, oneRoot_c3 h hf.2.2.2⟩
theorem rtP_c3 {f g : Int → Int} (h : ag3 f g) (hf : rtP f) : rtP g := fun p a b => by
  rw [← h p (by omega), ← h (160 + p) (by omega), ← h (200 + p) (by omega)]; exact hf p a b
theorem rootF_c3 {f g : Int → Int} (h : ag3 f g) : ∀ (k : Nat) (p : Int), 0 ≤ p → p + k ≤ 40 → rootF f k p = rootF g k p := by
  intro k
  induction k with
  | zero => intro p _ _; rfl
  | succ k ih =>
    intro p p0 p1
    unfold rootF
    rw [h p (by omega), h (160 + p) (by omega), ih (p + 1) (by omega) (by omega)]
theorem ag3_480 (f : Int → Int) (m : Int) : ag3 f (up1 f 480 m) := fun j hj => (up1_n (by omega)).symm
theorem rA_480 {σ : sxS} {f : Int → Int} {m : Int} (h : rA σ 7 f) : rA (sc σ 7 (up1 (σ 7) 4 m)) 7 (up1 f 480 m) := by
  obtain ⟨a1, a2, a3, a4⟩ := h
  have u : ∀ j, j < 480 → up1 f 480 m j = f j := fun j hj => up1_n (by omega)
  refine ⟨fun p p0 p1 => ?_, fun p p0 p1 hp => ?_, ?_, ?_⟩
  · have z := a1 p p0 p1
    simp only [sc_at, Nat.reduceAdd, Nat.reduceEqDiff, reduceIte, u p (by omega), u (160 + p) (by omega), u (40 + p) (by omega), u (80 + p) (by omega), u (120 + p) (by omega), up1_s]
    rcases z with ⟨c1, c2, c3, c4, c5, c6⟩ | z
    · exact Or.inl ⟨c1, c2, c3, c4, c5, trivial⟩
    · exact Or.inr z
  · rw [u p (by omega)] at hp
    simp only [sc_at, Nat.reduceAdd, Nat.reduceEqDiff, reduceIte, u (200 + p) (by omega)]
    exact a2 p p0 p1 hp
  · rw [← rootF_c3 (ag3_480 f m) 40 0 (by omega) (by omega)]
    simp only [sc_at, reduceIte]
    rw [up1_n (by omega)]; exact a3
  · rw [← cntF_congr (f := f) 40 0 0 (fun q x y => ag3_480 f m q (by omega))]
    simp only [sc_at, reduceIte]
    rw [up1_n (by omega)]; exact a4
theorem rowOk_480 {f : Int → Int} {m : Int} (h : rowOk f) (m0 : 0 ≤ m) (m1 : m ≤ 2) : rowOk (up1 f 480 m) := by
  refine ⟨invF_c3 (ag3_480 f m) h.1, rtP_c3 (ag3_480 f m) h.2.1, fun q k a b c d => ?_, ?_, ?_⟩
  · rw [up1_n (by omega)]; exact h.2.2.1 q k a b c d
  · rw [up1_s]; exact m0
  · rw [up1_s]; exact m1
section A4
variable {n : Nat} {c : Int} {σ : sxS} {K : Option sxV → sxT → sxS → Prop}
theorem cl38 {w : Int} (hc : c < 100000) : call2 n c 146 273 [some (vR 1), some (vI w)] [some (vR 149), some (vI w)] := fun σ h => by
  have h' := h
  obtain ⟨hP, hO, hM, hH, hT, hR, hS, hF, hQ, hV, hI, hG, hW⟩ := h'
  have rr := Rel_r h hc (w := 3) (by omega) (by omega)
  have ki := keep_in h
  have m5 := hO.2.2.2
  by_cases e : byC (σ 149) (σ 150) w
  · have e' := e
    obtain ⟨c1, ⟨c2, c3⟩, c4⟩ := e'
    have m := Rel_m h c1
    simp only [s146_0, s146_1, s146_4, s146_7, s146_8, s146_11, s146_12, s146_15, s146_18, s146_19, s146_20, s146_23, s146_26, s146_29, s146_30, s146_31, s146_34, s146_35, s146_36, s146_37, s146_38, s146_41, s146_42, s146_45, sx_push, tf, List.length_cons, List.length_nil, Option.some.injEq, exists_eq_left', Nat.reduceAdd, Nat.reduceLeDiff, true_and, and_true, true_or, or_true, Int.zero_add, Nat.zero_le, eq_self, ne_eq, not_true_eq_false, not_false_eq_true, false_implies, true_implies, implies_true, b2i_0, b2i_1, b2i_01, up_sc, sc_at, sc_sc, ite_true, ite_false, if_true, if_false, Nat.reduceEqDiff, reduceIte, x147, m.2]
    repeat' (first | intro _ | refine And.intro ?_ ?_)
    all_goals first | omega | skip
    refine x142 ki.1.1 ki.1.2 ki.2.1 (fun σ1 a1 a2 a3 a4 => ?_)
    have hP1 := kp_PT a1 hP
    simp only [s146_48, s146_49, s146_52, s146_53, s146_56, s146_57, s146_60, sx_push, tf, List.length_cons, List.length_nil, Option.some.injEq, exists_eq_left', Nat.reduceAdd, Nat.reduceLeDiff, true_and, and_true, true_or, or_true, Int.zero_add, Nat.zero_le, eq_self, ne_eq, not_true_eq_false, not_false_eq_true, false_implies, true_implies, implies_true, b2i_0, b2i_1, b2i_01, up_sc, sc_at, sc_sc, ite_true, ite_false, if_true, if_false, Nat.reduceEqDiff, reduceIte]
    have rB1 : rB (sc σ1 7 (up1 (σ1 7) 4 w)) 7 (up1 (σ 150) 480 w) := fun p p0 p1 hp => by
      rw [up1_n (by omega)] at hp
      exact hP1.2.1 p p0 p1 hp
    have hO1 := rowOk_480 (m := w) hO c2 c3
    refine x130 isP7 (rA_480 hP1.1) hO1.1 rB1 (fun σ2 b1 b2 b3 b4 b5 => ?_)
    simp only [s146_63, s146_64, sx_push, tf, List.length_cons, List.length_nil, Option.some.injEq, exists_eq_left', Nat.reduceAdd, Nat.reduceLeDiff, true_and, and_true, true_or, or_true, Int.zero_add, Nat.zero_le, eq_self, ne_eq, not_true_eq_false, not_false_eq_true, false_implies, true_implies, implies_true, b2i_0, b2i_1, b2i_01, up_sc, sc_at, sc_sc, ite_true, ite_false, if_true, if_false, Nat.reduceEqDiff, reduceIte]
    refine ⟨_, rfl, ?_⟩
    have bk : ∀ k, (k < 7 ∨ 11 < k) → σ2 k = σ1 k := fun k hk => by rw [b1 k (by omega), sc_at, if_neg (by omega)]
    have g149 : σ2 149 = σ 149 := by rw [bk 149 (by omega), a1 149 (by omega) (by omega)]
    have g150 : σ2 150 = σ 150 := by rw [bk 150 (by omega), a1 150 (by omega) (by omega)]
    have g151 : σ2 151 = σ 151 := by rw [bk 151 (by omega), a1 151 (by omega) (by omega)]
    rw [x273t (by rw [g150]; exact hO.1.2.1) (by rw [g149]; exact ki.2.2.1) (by rw [g149]; exact ki.2.2.2) (by rw [g149, g150]; exact e)]
    rw [g150]
    refine ⟨rfl, rfl, ?_⟩
    have ia := inv_anew hO1.1
    have rO := rowOk_anew hO1
    generalize hA : anewF (up1 (σ 150) 480 w) = A at *
    refine Rel_act (σ2 := σ2) (f := A) h m.1 m.2 a1 a2 a3 a4 (fun k hk => bk k (by omega)) ⟨b4, fun q q0 q1 hq => ?_, fun q q0 q1 => ?_⟩ rO ?_ (fun k hk => ?_) ?_ ?_ ?_ (fun k k1 k2 => ?_)
    · rw [ia.2.1 q q0 q1] at hq; exact b5 q q0 q1 hq
    · rw [b2, nmF_n (f := up1 (σ 150) 480 w) (fun j hj => ia.2.2 j (by omega)) q0, ia.2.1 q q0 q1, up1_n (by omega)]
      have : nmF (up1 (σ 150) 480 w) q = nmF (σ 150) q := by
        unfold nmF
        rw [up1_n (by omega), up1_n (by omega), up1_n (by omega), up1_n (by omega), up1_n (by omega), up1_n (by omega)]
      rw [this]
      exact hP1.2.2 q q0 q1
    · rw [b3, ia.2.2 480 (by omega), up1_s]
      simp [sc_at, up1]
    · rw [sc_at, if_neg (by omega), sc_at, if_neg (by omega), remS_at (by omega) (by omega)]
    · rw [sc_at, if_neg (by decide), sc_at, if_pos rfl]
    · rw [sc_at, if_neg (by decide), sc_at, if_neg (by decide)]; simp only [remS, sc_at]; simp [g149, g150, g151]
    · rw [sc_at, if_neg (by decide), sc_at, if_neg (by decide)]; simp only [remS, sc_at]; simp [g149]
    · unfold scr at k2
      rw [sc_at, if_neg (by omega), sc_at, if_neg (by omega), remS_at (by omega) (by omega), bk k (by omega), a1 k (by omega) (by omega)]
  · have x146f : ∀ K : Option sxV → sxT → sxS → Prop, K (some (vI 0)) (T0 n) (sc σ 148 (up1 (σ 148) 3 (σ 148 3 + 1))) → Rn 146 0 [some (vR 1), some (vI w)] [] (T0 n) σ K := fun K hK => by
      simp only [s146_0, s146_1, s146_4, s146_7, s146_8, s146_11, s146_12, s146_15, s146_18, s146_19, s146_20, s146_23, s146_26, s146_29, s146_30, s146_31, s146_34, s146_35, s146_36, sx_push, tf, List.length_cons, List.length_nil, Option.some.injEq, exists_eq_left', Nat.reduceAdd, Nat.reduceLeDiff, true_and, and_true, true_or, or_true, Int.zero_add, Nat.zero_le, eq_self, ne_eq, not_true_eq_false, not_false_eq_true, false_implies, true_implies, implies_true, b2i_0, b2i_1, b2i_01, up_sc, sc_at, sc_sc, ite_true, ite_false, if_true, if_false, Nat.reduceEqDiff, reduceIte, x147, x12 (n := n) (show (0 : Int) ≤ 3 by omega) (show (3 : Int) < 6 by omega) rr.1]
      unfold byC at e
      rcases hM with ⟨m1, m2⟩ | ⟨m1, m2, m3⟩
      · repeat' (first | intro _ | refine And.intro ?_ ?_)
        all_goals first | exact hK | omega
      · repeat' (first | intro _ | refine And.intro ?_ ?_)
        all_goals first | exact hK | omega
    refine x146f _ ⟨rfl, _, rfl, ?_⟩
    rw [x273f (by simpa [sc_at] using rr.2) (by simpa [sc_at] using e)]
    refine ⟨rfl, rfl, ?_, by simp [sc_at]⟩
    have := Rel_ref h (w := 3) (by omega) (by omega)
    simpa [sc_at] using this
theorem cl41 (hc : c < 100000) : call2 n c 152 278 [some (vR 1)] [some (vR 149), none] := fun σ h => by
  have h' := h
  obtain ⟨hP, hO, hM, hH, hT, hR, hS, hF, hQ, hV, hI, hG, hW⟩ := h'
  have rr := Rel_r h hc (w := 4) (by omega) (by omega)
  have ki := keep_in h
  obtain ⟨u1, u2, u3, u4, u5⟩ := hH
  by_cases e : σ 149 4 = 0
  · have x152f : ∀ K : Option sxV → sxT → sxS → Prop, K (some (vI 0)) (T0 n) (sc σ 148 (up1 (σ 148) 4 (σ 148 4 + 1))) → Rn 152 0 [some (vR 1)] [] (T0 n) σ K := fun K hK => by
      simp only [s152_0, s152_1, s152_4, s152_7, s152_10, s152_11, s152_12, s152_15, s152_16, s152_17, s152_18, s152_19, s152_22, s152_23, s152_26, s152_29, s152_30, sx_push, tf, List.length_cons, List.length_nil, Option.some.injEq, exists_eq_left', Nat.reduceAdd, Nat.reduceLeDiff, true_and, and_true, true_or, or_true, Int.zero_add, Nat.zero_le, eq_self, ne_eq, not_true_eq_false, not_false_eq_true, false_implies, true_implies, implies_true, b2i_0, b2i_1, b2i_01, up_sc, sc_at, sc_sc, ite_true, ite_false, if_true, if_false, Nat.reduceEqDiff, reduceIte, u1, e, x12 (n := n) (show (0 : Int) ≤ 4 by omega) (show (4 : Int) < 6 by omega) rr.1]
      repeat' (first | intro _ | refine And.intro ?_ ?_)
      all_goals first | exact hK | omega | contradiction
    refine x152f _ ⟨rfl, _, rfl, ?_⟩
    rw [x278 (by simp [sc_at]; omega) (by simp [sc_at]; omega) (by simpa [sc_at] using rr.2)]
    have e' : sc σ 148 (up1 (σ 148) 4 (σ 148 4 + 1)) 149 4 = 0 := by simpa [sc_at] using e
    rw [if_pos e', b2i_f (fun z => z e')]
    refine ⟨rfl, rfl, ?_, by simp [sc_at]⟩
    have := Rel_ref h (w := 4) (by omega) (by omega)
    simpa [sc_at] using this
  · simp only [s152_0, s152_1, s152_4, s152_7, s152_10, s152_11, s152_12, s152_15, s152_16, s152_17, s152_18, s152_19, s152_22, s152_23, s152_26, s152_29, s152_30, sx_push, tf, List.length_cons, List.length_nil, Option.some.injEq, exists_eq_left', Nat.reduceAdd, Nat.reduceLeDiff, true_and, and_true, true_or, or_true, Int.zero_add, Nat.zero_le, eq_self, ne_eq, not_true_eq_false, not_false_eq_true, false_implies, true_implies, implies_true, b2i_0, b2i_1, b2i_01, up_sc, sc_at, sc_sc, ite_true, ite_false, if_true, if_false, Nat.reduceEqDiff, reduceIte, u1]
    refine ⟨fun _ => ?_, fun z => absurd z e⟩
    refine x153 u3.1 u3.2 (by omega) (by omega) (fun σ1 a1 a2 a3 a4 => ?_)
    simp only [s152_29, s152_30, sx_push, tf, List.length_cons, List.length_nil, Option.some.injEq, exists_eq_left', Nat.reduceAdd, Nat.reduceLeDiff, true_and, and_true, true_or, or_true, Int.zero_add, Nat.zero_le, eq_self, ne_eq, not_true_eq_false, not_false_eq_true, false_implies, true_implies, implies_true, b2i_0, b2i_1, b2i_01, up_sc, sc_at, sc_sc, ite_true, ite_false, if_true, if_false, Nat.reduceEqDiff, reduceIte]
    refine ⟨_, rfl, ?_⟩
    have g149 : σ1 149 = σ 149 := a1 149 (by omega) (by omega)
    have g150 : σ1 150 = σ 150 := a1 150 (by omega) (by omega)
    have g151 : σ1 151 = σ 151 := a1 151 (by omega) (by omega)
    have g155 : σ1 155 = σ 155 := a1 155 (by omega) (by omega)
    rw [x278 (by rw [g149]; omega) (by rw [g149]; omega) (by rw [g155]; exact rr.2)]
    rw [g149, g150, g151, b2i_t e, if_neg e]
    obtain ⟨d1, d2, d3⟩ := u5 (σ 149 4 - 1) (by omega) (by omega)
    have hs : slot (σ 17 1) (σ 149 4) (σ 149 4 - 1) = 19 + 5 * (lastK (σ 17 1)).toNat := by unfold slot lastK; split <;> omega
    rw [hs] at d1 d3
    have agc : agr (fun j => σ 151 (481 * (σ 149 4 - 1) + j)) (cpF (fun j => σ 151 (481 * (σ 149 4 - 1) + j)) (σ 150) 481) := fun j j0 j1 => by unfold cpF; rw [if_pos ⟨j0, j1⟩]
    have key : ∀ σ' : sxS, σ' = sc (sc σ1 149 (up1 (σ 149) 4 (σ 149 4 - 1))) 150 (cpF (fun j => σ 151 (481 * (σ 149 4 - 1) + j)) (σ 150) 481) → Rel (c + 1) σ' ∧ σ' 0 = σ 0 := fun σ' he => by
      have q : ∀ k, k ≠ 17 → (k < 7 ∨ 11 < k) → k ≠ 149 → k ≠ 150 → σ' k = σ k := fun k k1 k2 k3 k4 => by rw [he, sc_at, if_neg k4, sc_at, if_neg k3]; exact a1 k k1 k2
      have q1 : ∀ k, k ≠ 149 → k ≠ 150 → σ' k = σ1 k := fun k k3 k4 => by rw [he, sc_at, if_neg k4, sc_at, if_neg k3]
      have q149 : σ' 149 = up1 (σ 149) 4 (σ 149 4 - 1) := by rw [he, sc_at, if_neg (by decide), sc_at, if_pos rfl]
      have q150 : σ' 150 = cpF (fun j => σ 151 (481 * (σ 149 4 - 1) + j)) (σ 150) 481 := by rw [he, sc_at, if_pos rfl]
      refine ⟨Rel_pt h (by omega) (fun k k1 k2 => q k (by unfold ptc at k2; omega) (by unfold ptc at k2; omega) (by unfold scr at k1; omega) (by unfold ptc at k2; omega)) (fun j j1 _ => by rw [q149, up1_n j1]) ?_ ?_ ?_ ?_ (q 4 (by omega) (by omega) (by omega) (by omega)) (by rw [q 126 (by omega) (by omega) (by omega) (by omega)]) (q 156 (by omega) (by omega) (by omega) (by omega)), q 0 (by omega) (by omega) (by omega) (by omega)⟩
      · rw [q150]
        exact PT_cells (fun k k1 k2 => q1 k (by omega) (by omega)) (PT_cg agc (PT_cpd a2 d1))
      · rw [q150]; exact rowOk_cg agc d2
      · refine Or.inl ⟨by rw [q149, up1_n (by omega)]; exact u4 (by omega), ?_⟩
        rw [q1 7 (by omega) (by omega), a2.2.1, d3, q150]
        exact agc 480 (by omega) (by omega)
      · refine ⟨?_, ?_, ?_, fun _ => by rw [q149, up1_n (by omega)]; exact u4 (by omega), fun i i0 i1 => ?_⟩
        · rw [q1 17 (by omega) (by omega), a4, q149, up1_s, u1]
        · rw [q149, up1_s]; omega
        · rw [q1 17 (by omega) (by omega), a3]; unfold lastK; split <;> omega
        · rw [q149, up1_s] at i1 ⊢
          rw [q1 17 (by omega) (by omega), a3, q 151 (by omega) (by omega) (by omega) (by omega)]
          have hs2 : slot (lastK (σ 17 1)) (σ 149 4 - 1) i = slot (σ 17 1) (σ 149 4) i := by unfold slot lastK; split <;> omega
          rw [hs2]
          obtain ⟨t1, t2, t3⟩ := u5 i i0 (by omega)
          have hs1 : 19 ≤ slot (σ 17 1) (σ 149 4) i ∧ slot (σ 17 1) (σ 149 4) i + 4 ≤ 118 := by unfold slot; omega
          exact ⟨PT_cells (fun k k1 k2 => q k (by omega) (by omega) (by omega) (by omega)) t1, t2, by rw [q _ (by omega) (by omega) (by omega) (by omega)]; exact t3⟩
    exact ⟨rfl, rfl, key _ rfl⟩
end A4
