/-! chance: the call -/
theorem chD_in (s : Int) : 0 ≤ chD s ∧ chD s ≤ 2147483647 := by
  have h1 := drawF_in (drawF s)
  have h2 := drawF_in (drawF (drawF (drawF s)))
  unfold chD
  split <;> omega
theorem chN_ok : ∀ (m : Nat) (f : Int → Int) (s : Int), rowOk f → 0 ≤ s → s ≤ 2147483647 → rowOk (chN f s m).1 ∧ 0 ≤ (chN f s m).2 ∧ (chN f s m).2 ≤ 2147483647 := by
  intro m
  induction m with
  | zero => intro f s h1 h2 h3; exact ⟨h1, h2, h3⟩
  | succ m ih =>
    intro f s h1 h2 h3
    have z := chD_in s
    exact ih (chF f s) (chD s) (chF_ok h1 s) z.1 z.2
section CH2
variable {n : Nat} {c : Int} {σ : sxS} {K : Option sxV → sxT → sxS → Prop}
theorem x149l {k : Int} : ∀ (m : Nat) (i : Int) (σ : sxS) (f : Int → Int), i + m = k → k ≤ 40 → 0 ≤ i → PT σ 7 f → rowOk f → σ 7 4 = f 480 → 0 ≤ σ 1 11 → σ 1 11 ≤ 2147483647 → (∀ σ', (∀ k, k ≠ 1 → (k < 7 ∨ 11 < k) → σ' k = σ k) → (∀ j, j ≠ 11 → σ' 1 j = σ 1 j) → PT σ' 7 (chN f (σ 1 11) m).1 → σ' 7 4 = (chN f (σ 1 11) m).1 480 → σ' 1 11 = (chN f (σ 1 11) m).2 → K (some (vI (cntF (chN f (σ 1 11) m).1 40 0 0))) (T0 n) σ') → Rn 149 41 [some (vR 1), some (vI k), some (vI i)] [] (T0 n) σ K := by
  intro m
  induction m with
  | zero =>
    intro i σ f hi hk i0 hP hO h4 s0 s1 hK
    have := hK σ (fun _ _ _ => rfl) (fun _ _ => rfl) hP h4 rfl
    rw [s149_41]
    simp only [s149_42, s149_43, s149_56, s149_57, s149_60, s149_63, sx_push, tf, List.length_cons, List.length_nil, Option.some.injEq, exists_eq_left', Nat.reduceAdd, Nat.reduceLeDiff, true_and, and_true, true_or, or_true, Int.zero_add, Nat.zero_le, eq_self, ne_eq, not_true_eq_false, not_false_eq_true, false_implies, true_implies, implies_true, b2i_0, b2i_1, b2i_01, up_sc, sc_at, sc_sc, ite_true, ite_false, if_true, if_false, Nat.reduceEqDiff, reduceIte, hP.1.2.2.2]
    repeat' (first | intro _ | refine And.intro ?_ ?_)
    all_goals first | omega | exact this
  | succ m ih =>
    intro i σ f hi hk i0 hP hO h4 s0 s1 hK
    rw [s149_41]
    simp only [s149_42, s149_43, s149_46, s149_47, sx_push, tf, List.length_cons, List.length_nil, Option.some.injEq, exists_eq_left', Nat.reduceAdd, Nat.reduceLeDiff, true_and, and_true, true_or, or_true, Int.zero_add, Nat.zero_le, eq_self, ne_eq, not_true_eq_false, not_false_eq_true, false_implies, true_implies, implies_true, b2i_0, b2i_1, b2i_01, up_sc, sc_at, sc_sc, ite_true, ite_false, if_true, if_false, Nat.reduceEqDiff, reduceIte]
    refine ⟨fun _ => by omega, fun _ => ?_⟩
    refine x150 hP hO h4 s0 s1 (fun σ1 a1 a2 a3 a4 a5 => ?_)
    have z := chD_in (σ 1 11)
    simp only [s149_50, s149_53, sx_push, tf, List.length_cons, List.length_nil, Option.some.injEq, exists_eq_left', Nat.reduceAdd, Nat.reduceLeDiff, true_and, and_true, true_or, or_true, Int.zero_add, Nat.zero_le, eq_self, ne_eq, not_true_eq_false, not_false_eq_true, false_implies, true_implies, implies_true, b2i_0, b2i_1, b2i_01, up_sc, sc_at, sc_sc, ite_true, ite_false, if_true, if_false, Nat.reduceEqDiff, reduceIte]
    refine ⟨by omega, ih (i + 1) σ1 (chF f (σ 1 11)) (by omega) hk (by omega) a3 (chF_ok hO _) a4 (by rw [a5]; exact z.1) (by rw [a5]; exact z.2) (fun σ' b1 b2 b3 b4 b5 => ?_)⟩
    rw [a5] at b3 b4 b5 ⊢
    exact hK σ' (fun k k1 k2 => (b1 k k1 k2).trans (a1 k k1 k2)) (fun j hj => (b2 j hj).trans (a2 j hj)) b3 b4 b5
theorem x275l {k : Int} : ∀ (m : Nat) (i : Int) (σ : sxS), i + m = k → k ≤ 40 → 0 ≤ i → rowOk (σ 150) → σ 149 6 ≠ 0 → 0 ≤ σ 149 5 → σ 149 5 ≤ 2147483647 → (∀ σ', (∀ k, k ≠ 149 → k ≠ 150 → k ≠ 159 → σ' k = σ k) → (∀ j, j ≠ 5 → σ' 149 j = σ 149 j) → σ' 150 = (chN (σ 150) (σ 149 5) m).1 → σ' 149 5 = (chN (σ 150) (σ 149 5) m).2 → K (some (vI (cntF (chN (σ 150) (σ 149 5) m).1 40 0 0))) (T0 n) σ') → Rn 275 29 [some (vR 149), some (vI k), some (vI i)] [] (T0 n) σ K := by
  intro m
  induction m with
  | zero =>
    intro i σ hi hk i0 hO h6 s0 s1 hK
    have := hK σ (fun _ _ _ _ => rfl) (fun _ _ => rfl) rfl rfl
    rw [s275_29]
    simp only [s275_30, s275_31, s275_44, s275_45, s275_48, sx_push, tf, List.length_cons, List.length_nil, Option.some.injEq, exists_eq_left', Nat.reduceAdd, Nat.reduceLeDiff, true_and, and_true, true_or, or_true, Int.zero_add, Nat.zero_le, eq_self, ne_eq, not_true_eq_false, not_false_eq_true, false_implies, true_implies, implies_true, b2i_0, b2i_1, b2i_01, up_sc, sc_at, sc_sc, ite_true, ite_false, if_true, if_false, Nat.reduceEqDiff, reduceIte, x202 hO.1.1]
    repeat' (first | intro _ | refine And.intro ?_ ?_)
    all_goals first | omega | exact this
  | succ m ih =>
    intro i σ hi hk i0 hO h6 s0 s1 hK
    rw [s275_29]
    simp only [s275_30, s275_31, s275_34, s275_35, sx_push, tf, List.length_cons, List.length_nil, Option.some.injEq, exists_eq_left', Nat.reduceAdd, Nat.reduceLeDiff, true_and, and_true, true_or, or_true, Int.zero_add, Nat.zero_le, eq_self, ne_eq, not_true_eq_false, not_false_eq_true, false_implies, true_implies, implies_true, b2i_0, b2i_1, b2i_01, up_sc, sc_at, sc_sc, ite_true, ite_false, if_true, if_false, Nat.reduceEqDiff, reduceIte]
    refine ⟨fun _ => by omega, fun _ => ?_⟩
    refine x276 hO h6 s0 s1 (fun σ1 a1 a2 a3 a4 => ?_)
    have z := chD_in (σ 149 5)
    simp only [s275_38, s275_41, sx_push, tf, List.length_cons, List.length_nil, Option.some.injEq, exists_eq_left', Nat.reduceAdd, Nat.reduceLeDiff, true_and, and_true, true_or, or_true, Int.zero_add, Nat.zero_le, eq_self, ne_eq, not_true_eq_false, not_false_eq_true, false_implies, true_implies, implies_true, b2i_0, b2i_1, b2i_01, up_sc, sc_at, sc_sc, ite_true, ite_false, if_true, if_false, Nat.reduceEqDiff, reduceIte]
    refine ⟨by omega, ih (i + 1) σ1 (by omega) hk (by omega) (by rw [a3]; exact chF_ok hO _) (by rw [a2 6 (by decide)]; exact h6) (by rw [a4]; exact z.1) (by rw [a4]; exact z.2) (fun σ' b1 b2 b3 b4 => ?_)⟩
    rw [a3, a4] at b3 b4 ⊢
    exact hK σ' (fun k k1 k2 k3 => (b1 k k1 k2 k3).trans (a1 k k1 k2 k3)) (fun j hj => (b2 j hj).trans (a2 j hj)) b3 b4
theorem Rel_seed {d : Int} {σ σ' : sxS} (h : Rel d σ) (hk : ∀ k, k ≠ 1 → k ≠ 149 → σ' k = σ k) (h9 : ∀ j, j ≠ 5 → σ' 149 j = σ 149 j) (hs : relS (σ' 1 11) (σ' 149)) : Rel d σ' := by
  have h' := h
  obtain ⟨hP, hO, hM, hH, hT, hR, hS, hF, hQ, hV, hI, hG, hW⟩ := h'
  refine Rel_up h (fun k hk' => hk k (by unfold ptc at hk'; omega) (by unfold ptc at hk'; omega)) (h9 4 (by decide)) (h9 6 (by decide)) ?_ ?_ hs ?_ ?_ ?_ ?_ ?_
  · rw [hk 2 (by decide) (by decide), hk 3 (by decide) (by decide), hk 154 (by decide) (by decide)]; unfold relT; rw [h9 8 (by decide)]; exact hT
  · rw [hk 148 (by decide) (by decide), hk 155 (by decide) (by decide)]; exact hR
  · rw [hk 4 (by decide) (by decide)]; unfold relF; rw [h9 10 (by decide), h9 11 (by decide)]; exact hF
  · rw [hk 119 (by decide) (by decide), hk 122 (by decide) (by decide), hk 123 (by decide) (by decide), hk 124 (by decide) (by decide), hk 125 (by decide) (by decide), hk 161 (by decide) (by decide)]; unfold relQ; rw [h9 26 (by decide), h9 27 (by decide), h9 28 (by decide), h9 29 (by decide), h9 30 (by decide)]; exact hQ
  · rw [hk 141 (by decide) (by decide), hk 142 (by decide) (by decide), hk 143 (by decide) (by decide), hk 144 (by decide) (by decide), hk 166 (by decide) (by decide), hk 167 (by decide) (by decide), hk 168 (by decide) (by decide)]; unfold relV; rw [h9 36 (by decide)]; exact hV
  · rw [hk 146 (by decide) (by decide), hk 147 (by decide) (by decide), hk 169 (by decide) (by decide)]; unfold relI; rw [h9 41 (by decide)]; exact hI
  · rw [hk 119 (by decide) (by decide), hk 126 (by decide) (by decide)]; exact ⟨⟨rfl, rfl⟩, rfl⟩
theorem cl40 {k : Int} (hc : c < 100000) : call2 n c 149 275 [some (vR 1), some (vI k), none] [some (vR 149), some (vI k), none] := fun σ h => by
  have h' := h
  obtain ⟨hP, hO, hM, hH, hT, hR, hS, hF, hQ, hV, hI, hG, hW⟩ := h'
  have rr := Rel_r h hc (w := 3) (by omega) (by omega)
  have ki := keep_in h
  have m5 := hO.2.2.2
  by_cases e : σ 149 6 ≠ 0 ∧ (1 ≤ k ∧ k ≤ 40)
  · have m := Rel_m h e.1
    simp only [s149_0, s149_1, s149_2, s149_5, s149_6, s149_8, s149_11, s149_12, s149_15, s149_18, s149_19, s149_22, s149_23, s149_24, s149_27, s149_28, s149_29, s149_32, s149_33, s149_36, sx_push, tf, List.length_cons, List.length_nil, Option.some.injEq, exists_eq_left', Nat.reduceAdd, Nat.reduceLeDiff, true_and, and_true, true_or, or_true, Int.zero_add, Nat.zero_le, eq_self, ne_eq, not_true_eq_false, not_false_eq_true, false_implies, true_implies, implies_true, b2i_0, b2i_1, b2i_01, up_sc, sc_at, sc_sc, ite_true, ite_false, if_true, if_false, Nat.reduceEqDiff, reduceIte, m.2]
    repeat' (first | intro _ | refine And.intro ?_ ?_)
    all_goals first | omega | skip
    refine x142 ki.1.1 ki.1.2 ki.2.1 (fun σ1 a1 a2 a3 a4 => ?_)
    have hP1 := kp_PT a1 hP
    have s1 : σ1 1 = σ 1 := a1 1 (by omega) (by omega)
    simp only [s149_39, s149_40, sx_push, tf, List.length_cons, List.length_nil, Option.some.injEq, exists_eq_left', Nat.reduceAdd, Nat.reduceLeDiff, true_and, and_true, true_or, or_true, Int.zero_add, Nat.zero_le, eq_self, ne_eq, not_true_eq_false, not_false_eq_true, false_implies, true_implies, implies_true, b2i_0, b2i_1, b2i_01, up_sc, sc_at, sc_sc, ite_true, ite_false, if_true, if_false, Nat.reduceEqDiff, reduceIte]
    refine x149l k.toNat 0 σ1 (σ 150) (by omega) e.2.2 (by omega) hP1 hO (by rw [a1 7 (by omega) (by omega)]; exact m.2) (by rw [s1, hS.1]; exact hS.2.1) (by rw [s1, hS.1]; exact hS.2.2) (fun σ2 b1 b2 b3 b4 b5 => ?_)
    rw [s1, hS.1] at b3 b4 b5 ⊢
    refine ⟨rfl, _, rfl, ?_⟩
    have ok := chN_ok k.toNat (σ 150) (σ 149 5) hO hS.2.1 hS.2.2
    have q2 : ∀ k, k ≠ 1 → (k < 7 ∨ 11 < k) → k ≠ 17 → (k < 19 + 5 * (σ 17 1).toNat ∨ 19 + 5 * (σ 17 1).toNat + 4 < k) → σ2 k = σ k := fun k k1 k2 k3 k4 => by rw [b1 k k1 k2, a1 k k3 k4]
    have g149 : σ2 149 = σ 149 := q2 149 (by omega) (by omega) (by omega) (by omega)
    have g150 : σ2 150 = σ 150 := q2 150 (by omega) (by omega) (by omega) (by omega)
    have g151 : σ2 151 = σ 151 := q2 151 (by omega) (by omega) (by omega) (by omega)
    have fin : ∀ σ3 : sxS, (∀ k, k ≠ 149 → k ≠ 150 → k ≠ 151 → k ≠ 159 → σ3 k = σ2 k) → (∀ j, j ≠ 4 → j ≠ 5 → σ3 149 j = σ 149 j) → σ3 149 4 = (if σ 149 4 = 20 then 20 else σ 149 4 + 1) → σ3 151 = keptF (σ 151) (σ 150) (σ 149 4) → σ3 150 = (chN (σ 150) (σ 149 5) k.toNat).1 → σ3 149 5 = (chN (σ 150) (σ 149 5) k.toNat).2 → Rel (c + 1) σ3 ∧ σ3 0 = σ 0 := fun σ3 d1 d2 d3 d4 d5 d6 => by
      generalize chN (σ 150) (σ 149 5) k.toNat = C at *
      have ra := Rel_act (σ2 := sc σ2 1 (σ 1)) (σ3 := sc (sc σ3 1 (σ 1)) 149 (up1 (σ 149) 4 (if σ 149 4 = 20 then 20 else σ 149 4 + 1))) (f := C.1) h m.1 m.2 a1 a2 a3 a4 (fun k hk => ?_) (PT_cells (fun k k1 k2 => by rw [sc_at, if_neg (by omega)]) b3) ok.1 (by rw [sc_at, if_neg (by omega)]; exact b4) (fun k hk => ?_) ?_ ?_ ?_ (fun k k1 k2 => ?_)
      · refine ⟨Rel_seed ra.1 (fun k k1 k2 => ?_) (fun j hj => ?_) ⟨?_, ?_, ?_⟩, ?_⟩
        · rw [sc_at, if_neg k2, sc_at, if_neg k1]
        · rw [sc_at, if_pos rfl]
          by_cases j4 : j = 4
          · rw [j4, up1_s]; exact d3
          · rw [up1_n j4]; exact d2 j j4 hj
        · rw [d1 1 (by omega) (by omega) (by omega) (by omega), b5, d6]
        · rw [d6]; exact ok.2.1
        · rw [d6]; exact ok.2.2
        · rw [d1 0 (by omega) (by omega) (by omega) (by omega)]; exact q2 0 (by omega) (by omega) (by omega) (by omega)
      · by_cases k1 : k = 1
        · rw [k1, sc_at, if_pos rfl, s1]
        · rw [sc_at, if_neg k1, b1 k k1 (by omega)]
      · by_cases k1 : k = 1
        · rw [k1, sc_at, if_neg (by omega), sc_at, if_pos rfl, sc_at, if_pos rfl]
        · rw [sc_at, if_neg (by omega), sc_at, if_neg k1, sc_at, if_neg k1]; exact d1 k (by omega) (by omega) (by omega) (by omega)
      · rw [sc_at, if_neg (by omega), sc_at, if_neg (by omega)]; exact d5
      · rw [sc_at, if_neg (by omega), sc_at, if_neg (by omega)]; exact d4
      · rw [sc_at, if_pos rfl]
      · unfold scr at k2
        rw [sc_at, if_neg (by omega), sc_at, if_neg (by omega), d1 k (by omega) (by omega) (by omega) (by omega)]
        exact q2 k (by omega) (by omega) (by omega) (by omega)
    have x185' := fun K => x185 (n := n) (σ := σ2) (K := K) (v := k) (lo := 1) (hi := 40)
    rw [b2i_t e.2] at x185'
    have h6 : σ2 149 6 ≠ 0 := by rw [g149]; exact e.1
    simp only [s275_0, s275_1, s275_4, s275_7, s275_8, s275_9, s275_11, s275_14, s275_17, s275_18, s275_19, s275_22, s275_23, s275_24, Int.reduceToNat, Int.reducePow, Nat.reducePow, Int.reduceLE, Int.reduceLT, Int.reduceNeg, Int.reduceEq, Int.reduceNe, Int.reduceAdd, Int.reduceSub, Int.reduceMul, and_self, sx_push, tf, List.length_cons, List.length_nil, Option.some.injEq, exists_eq_left', Nat.reduceAdd, Nat.reduceLeDiff, true_and, and_true, true_or, or_true, Int.zero_add, Nat.zero_le, eq_self, ne_eq, not_true_eq_false, not_false_eq_true, false_implies, true_implies, implies_true, b2i_0, b2i_1, b2i_01, up_sc, sc_at, sc_sc, ite_true, ite_false, if_true, if_false, Nat.reduceEqDiff, reduceIte, x185']
    repeat' (first | intro _ | refine And.intro ?_ ?_)
    all_goals first | omega | contradiction | skip
    rw [x268 (by rw [g149]; exact ki.2.2.1) (by rw [g149]; exact ki.2.2.2), g149, g150, g151]
    simp only [s275_27, s275_28, sx_push, tf, List.length_cons, List.length_nil, Option.some.injEq, exists_eq_left', Nat.reduceAdd, Nat.reduceLeDiff, true_and, and_true, true_or, or_true, Int.zero_add, Nat.zero_le, eq_self, ne_eq, not_true_eq_false, not_false_eq_true, false_implies, true_implies, implies_true, b2i_0, b2i_1, b2i_01, up_sc, sc_at, sc_sc, ite_true, ite_false, if_true, if_false, Nat.reduceEqDiff, reduceIte]
    have s150 : sc (sc σ2 151 (keptF (σ 151) (σ 150) (σ 149 4))) 149 (up1 (σ 149) 4 (if σ 149 4 = 20 then 20 else σ 149 4 + 1)) 150 = σ 150 := by simp [sc_at]; exact g150
    have s1495 : sc (sc σ2 151 (keptF (σ 151) (σ 150) (σ 149 4))) 149 (up1 (σ 149) 4 (if σ 149 4 = 20 then 20 else σ 149 4 + 1)) 149 5 = σ 149 5 := by simp [sc_at, up1]
    refine x275l k.toNat 0 _ (by omega) e.2.2 (by omega) (by rw [s150]; exact hO) (by simp [sc_at, up1]; exact e.1) (by rw [s1495]; exact hS.2.1) (by rw [s1495]; exact hS.2.2) (fun σ3 d1 d2 d3 d4 => ?_)
    rw [s150, s1495] at d3 d4 ⊢
    refine ⟨rfl, rfl, fin σ3 (fun k k1 k2 k3 k4 => ?_) (fun j j1 j2 => ?_) ?_ ?_ d3 d4⟩
    · rw [d1 k k1 k2 k4, sc_at, if_neg k1, sc_at, if_neg k3]
    · rw [d2 j j2, sc_at, if_pos rfl, up1_n j1]
    · rw [d2 4 (by decide), sc_at, if_pos rfl, up1_s]
    · rw [d1 151 (by decide) (by decide) (by decide), sc_at, if_neg (by decide), sc_at, if_pos rfl]
  · have me : σ 7 4 = -1 ↔ σ 149 6 = 0 := by
      rcases hM with ⟨m1, m2⟩ | ⟨m1, m2, m3⟩
      · constructor <;> intro z <;> omega
      · constructor <;> intro z <;> omega
    have x149f : ∀ K : Option sxV → sxT → sxS → Prop, K (some (vI (-1))) (T0 n) (sc σ 148 (up1 (σ 148) 3 (σ 148 3 + 1))) → Rn 149 0 [some (vR 1), some (vI k), none] [] (T0 n) σ K := fun K hK => by
      simp only [s149_0, s149_1, s149_2, s149_5, s149_6, s149_8, s149_11, s149_12, s149_15, s149_18, s149_19, s149_22, s149_23, s149_24, s149_27, sx_push, tf, List.length_cons, List.length_nil, Option.some.injEq, exists_eq_left', Nat.reduceAdd, Nat.reduceLeDiff, true_and, and_true, true_or, or_true, Int.zero_add, Nat.zero_le, eq_self, ne_eq, not_true_eq_false, not_false_eq_true, false_implies, true_implies, implies_true, b2i_0, b2i_1, b2i_01, up_sc, sc_at, sc_sc, ite_true, ite_false, if_true, if_false, Nat.reduceEqDiff, reduceIte, x12 (n := n) (show (0 : Int) ≤ 3 by omega) (show (3 : Int) < 6 by omega) rr.1]
      repeat' (first | intro _ | refine And.intro ?_ ?_)
      all_goals first | exact hK | omega
    refine x149f _ ⟨rfl, _, rfl, ?_⟩
    have g155 : sc σ 148 (up1 (σ 148) 3 (σ 148 3 + 1)) 155 = σ 155 := by simp [sc_at]
    have g149 : sc σ 148 (up1 (σ 148) 3 (σ 148 3 + 1)) 149 = σ 149 := by simp [sc_at]
    have r169 := fun K => x169 (n := n) (σ := sc σ 148 (up1 (σ 148) 3 (σ 148 3 + 1))) (K := K) (w := 3) (by omega) (by omega) (by rw [g155]; exact rr.2)
    rw [g155] at r169
    have fin : Rel (c + 1) (sc (sc σ 148 (up1 (σ 148) 3 (σ 148 3 + 1))) 155 (up1 (σ 155) 3 (σ 155 3 + 1))) ∧ (sc (sc σ 148 (up1 (σ 148) 3 (σ 148 3 + 1))) 155 (up1 (σ 155) 3 (σ 155 3 + 1))) 0 = σ 0 := ⟨Rel_ref h (by omega) (by omega), by simp [sc_at]⟩
    have x275f : ∀ K : Option sxV → sxT → sxS → Prop, K (some (vI (-1))) (T0 n) (sc (sc σ 148 (up1 (σ 148) 3 (σ 148 3 + 1))) 155 (up1 (σ 155) 3 (σ 155 3 + 1))) → Rn 275 0 [some (vR 149), some (vI k), none] [] (T0 n) (sc σ 148 (up1 (σ 148) 3 (σ 148 3 + 1))) K := fun K hK => by
      simp only [s275_0, s275_1, s275_4, s275_7, s275_8, s275_9, s275_11, s275_14, s275_17, s275_18, s275_19, s275_22, sx_push, tf, List.length_cons, List.length_nil, Option.some.injEq, exists_eq_left', Nat.reduceAdd, Nat.reduceLeDiff, true_and, and_true, true_or, or_true, Int.zero_add, Nat.zero_le, eq_self, ne_eq, not_true_eq_false, not_false_eq_true, false_implies, true_implies, implies_true, b2i_0, b2i_1, b2i_01, up_sc, sc_at, sc_sc, ite_true, ite_false, if_true, if_false, Nat.reduceEqDiff, reduceIte, x185, r169, g149]
      repeat' (first | intro _ | refine And.intro ?_ ?_)
      all_goals first | exact hK | omega
    exact x275f _ ⟨rfl, rfl, fin.1, fin.2⟩
end CH2
