/-! links: the class's tree, whole -/
/-- the tree as it grows: i points taken, nx the next -/
def prP (f : Int → Int) (σ : sxS) (i nx : Int) : Prop := cntF (σ 140) 40 0 0 = i ∧ (∀ p, 0 ≤ p → p < 40 → σ 140 p = 0 ∨ (σ 140 p = 1 ∧ f p = 1)) ∧ (0 ≤ σ 133 8 ∧ (i = 0 → σ 133 8 = 0) ∧ (0 < i → σ 133 8 + 1 = i)) ∧ lkP f (σ 135) (σ 140) (σ 133 8) ∧ (i = 0 → ∀ p, 0 ≤ p → p < 40 → σ 138 p = 2147483647) ∧ (0 < i → ∀ p, thr f p → σ 140 p = 0 → (∃ t, thr f t ∧ σ 140 t = 1 ∧ σ 138 p = wE f p t) ∧ ∀ t, thr f t → σ 140 t = 1 → σ 138 p ≤ wE f p t) ∧ ((nx = -1 ∧ ∀ p, thr f p → σ 140 p = 1) ∨ (thr f nx ∧ σ 140 nx = 0 ∧ (0 < i → ∀ p, thr f p → σ 140 p = 0 → σ 138 nx ≤ σ 138 p)))
def k113 (σ σ' : sxS) : Prop := (∀ q, q ≠ 133 → q ≠ 135 → q ≠ 138 → q ≠ 140 → σ' q = σ q) ∧ ∀ j, j ≠ 8 → σ' 133 j = σ 133 j
theorem k113_tr {σ σ' σ'' : sxS} (h1 : k113 σ σ') (h2 : k113 σ' σ'') : k113 σ σ'' := ⟨fun q a b c d => by rw [h2.1 q a b c d, h1.1 q a b c d], fun j hj => by rw [h2.2 j hj, h1.2 j hj]⟩
theorem rL_7k {σ σ' : sxS} {f : Int → Int} (hr : rL σ 7 f) (h : ∀ k, 7 ≤ k → k ≤ 9 → σ' k = σ k) : rL σ' 7 f := by
  unfold rL at hr ⊢
  rw [h 7 (by decide) (by decide), h (7 + 1) (by decide) (by decide), h (7 + 2) (by decide) (by decide)]; exact hr
section L3
variable {n : Nat} {σ : sxS} {K : Option sxV → sxT → sxS → Prop} {f : Int → Int}
theorem x113i : ∀ (k : Nat) (p : Int) (u : Option sxV) (σ1 : sxS), p + k = 40 → 0 ≤ p → (∀ q, q ≠ 138 → q ≠ 140 → σ1 q = σ q) → (∀ q, 0 ≤ q → q < p → σ1 140 q = 0 ∧ σ1 138 q = 2147483647) → (∀ σ', (∀ q, q ≠ 138 → q ≠ 140 → σ' q = σ q) → (∀ q, 0 ≤ q → q < 40 → σ' 140 q = 0 ∧ σ' 138 q = 2147483647) → Rn 113 34 [some (vR 133), some (vI 40), u] [] (T0 n) σ' K) → Rn 113 7 [some (vR 133), some (vI p), u] [] (T0 n) σ1 K := by
  intro k
  induction k with
  | zero =>
    intro p u σ1 hp p0 h1 h2 hK
    obtain rfl : p = 40 := by omega
    have nx := hK σ1 h1 h2
    rw [s113_7]
    simp only [s113_8, s113_10, Int.reduceToNat, Int.reducePow, Nat.reducePow, Int.reduceLE, Int.reduceLT, Int.reduceNeg, Int.reduceEq, Int.reduceNe, Int.reduceAdd, Int.reduceSub, Int.reduceMul, and_self, sx_push, tf, List.length_cons, List.length_nil, Option.some.injEq, exists_eq_left', Nat.reduceAdd, Nat.reduceLeDiff, true_and, and_true, true_or, or_true, Int.zero_add, Nat.zero_le, eq_self, ne_eq, not_true_eq_false, not_false_eq_true, false_implies, true_implies, implies_true, b2i_0, b2i_1, b2i_01, up_sc, sc_at, sc_sc, ite_true, ite_false, if_true, if_false, Nat.reduceEqDiff, reduceIte]
    repeat' (first | intro _ | refine And.intro ?_ ?_)
    all_goals first | omega | exact nx
  | succ k ih =>
    intro p u σ1 hp p0 h1 h2 hK
    have nx := ih (p + 1) u (sc (sc σ1 140 (up1 (σ1 140) p 0)) 138 (up1 (σ1 138) p 2147483647)) (by omega) (by omega) (fun q a b => by rw [sc_at, if_neg a, sc_at, if_neg b, h1 q a b]) (fun q q0 q1 => by
      rw [sc_at, if_neg (by decide), sc_at, if_pos rfl, sc_at, if_pos rfl]
      by_cases z : q = p
      · rw [z, up1_s, up1_s]; exact ⟨rfl, rfl⟩
      · rw [up1_n z, up1_n z]; exact h2 q q0 (by omega)) hK
    rw [s113_7]
    simp only [s113_8, s113_10, s113_13, s113_14, s113_17, s113_18, s113_19, s113_20, s113_21, s113_24, s113_25, s113_27, s113_28, s113_31, Int.reduceToNat, Int.reducePow, Nat.reducePow, Int.reduceLE, Int.reduceLT, Int.reduceNeg, Int.reduceEq, Int.reduceNe, Int.reduceAdd, Int.reduceSub, Int.reduceMul, and_self, sx_push, tf, List.length_cons, List.length_nil, Option.some.injEq, exists_eq_left', Nat.reduceAdd, Nat.reduceLeDiff, true_and, and_true, true_or, or_true, Int.zero_add, Nat.zero_le, eq_self, ne_eq, not_true_eq_false, not_false_eq_true, false_implies, true_implies, implies_true, b2i_0, b2i_1, b2i_01, up_sc, sc_at, sc_sc, ite_true, ite_false, if_true, if_false, Nat.reduceEqDiff, reduceIte]
    repeat' (first | intro _ | refine And.intro ?_ ?_)
    all_goals first | omega | exact nx
theorem x113l (h01 : th01 f) (hw : wfc f) : ∀ (k : Nat) (i nx : Int) (σ : sxS), i + k = cntF f 40 0 0 → 0 ≤ i → rL σ 7 f → σ 7 6 = cntF f 40 0 0 → prP f σ i nx → (∀ σ', k113 σ σ' → jaP f (σ' 135) (σ' 133 8) → K none (T0 n) σ') → Rn 113 44 [some (vR 133), some (vI nx), some (vI i)] [] (T0 n) σ K := by
  have cm := cntF_in h01 40 0 0 (by omega) (by omega)
  -- the end
  have fin : ∀ (i nx : Int) (σ : sxS), prP f σ i nx → i = cntF f 40 0 0 → jaP f (σ 135) (σ 133 8) := by
    intro i nx σ h hi
    obtain ⟨a1, a2, a3, a4, a5, a6, a7⟩ := h
    refine ⟨by omega, by omega, lkP_inc hw a4 _ 0 (-1) (by omega) (by omega) (fun j j0 j1 => ?_)⟩
    obtain ⟨⟨a, b, ha, hb, hab, e, _, _⟩, _⟩ := a4.1 j j0 j1
    rw [e]
    have := wE_nn hw ha hb
    omega
  intro k
  induction k with
  | zero =>
    intro i nx σ hi i0 hr h6 hP hK
    have hK := hK σ ⟨fun _ _ _ _ _ => rfl, fun _ _ => rfl⟩ (fin i nx σ hP (by omega))
    rw [s113_44]
    simp only [s113_45, s113_46, s113_49, s113_52, s113_99, Int.reduceToNat, Int.reducePow, Nat.reducePow, Int.reduceLE, Int.reduceLT, Int.reduceNeg, Int.reduceEq, Int.reduceNe, Int.reduceAdd, Int.reduceSub, Int.reduceMul, and_self, sx_push, tf, List.length_cons, List.length_nil, Option.some.injEq, exists_eq_left', Nat.reduceAdd, Nat.reduceLeDiff, true_and, and_true, true_or, or_true, Int.zero_add, Nat.zero_le, eq_self, ne_eq, not_true_eq_false, not_false_eq_true, false_implies, true_implies, implies_true, b2i_0, b2i_1, b2i_01, up_sc, sc_at, sc_sc, ite_true, ite_false, if_true, if_false, Nat.reduceEqDiff, reduceIte, h6]
    repeat' (first | intro _ | refine And.intro ?_ ?_)
    all_goals first | omega | exact hK
  | succ k ih =>
    intro i nx σ hi i0 hr h6 hP hK
    have hP' := hP
    obtain ⟨a1, a2, a3, a4, a5, a6, a7⟩ := hP'
    have tk01 : ∀ q, 0 ≤ q → q < 40 → σ 140 q = 0 ∨ σ 140 q = 1 := fun q q0 q1 => by rcases a2 q q0 q1 with z | z <;> omega
    rcases a7 with ⟨z1, z2⟩ | ⟨z1, z2, z3⟩
    · have ec : cntF (σ 140) 40 0 0 = cntF f 40 0 0 := cntF_congr 40 0 0 (fun q q0 q1 => by
        rcases h01 q q0 (by omega) with e | e
        · rcases a2 q q0 (by omega) with y | y <;> omega
        · rw [z2 q ⟨⟨q0, by omega⟩, e⟩, e])
      omega
    · -- one more
      obtain ⟨⟨x0, x1⟩, xf⟩ := z1
      have hx : thr f nx := ⟨⟨x0, x1⟩, xf⟩
      -- behind the link
      have main : ∀ σ1, k113 σ σ1 → σ1 140 = σ 140 → σ1 138 = σ 138 → σ1 133 8 + 1 = i + 1 → lkP f (σ1 135) (up1 (σ 140) nx 1) (σ1 133 8) → Rn 113 80 [some (vR 133), some (vI nx), some (vI i)] [] (T0 n) σ1 K := by
        intro σ1 g1 g140 g138 g8 gl
        have hr2 : rL (sc σ1 140 (up1 (σ1 140) nx 1)) 7 f := rL_7k hr (fun k k0 k1 => by rw [sc_at, if_neg (by omega), g1.1 k (by omega) (by omega) (by omega) (by omega)])
        have e140 : sc σ1 140 (up1 (σ1 140) nx 1) 140 = up1 (σ 140) nx 1 := by rw [sc_at, if_pos rfl, g140]
        have e138 : sc σ1 140 (up1 (σ1 140) nx 1) 138 = σ 138 := by rw [sc_at, if_neg (by decide), g138]
        have gro : Rn 115 0 [some (vR 133), some (vI nx), none, none, none] [] (T0 n) (sc σ1 140 (up1 (σ1 140) nx 1)) (fun r T' σ' => Rn 113 92 [some (vR 133), some (vI nx), some (vI i)] (sx_push r []) T' σ' K) := by
          refine x115 hr2 h01 hw hx (fun q q0 q1 => ?_) (fun σ2 r m1 m2 m3 => ?_)
          · rw [e140]
            by_cases z : q = nx
            · rw [z, up1_s]; omega
            · rw [up1_n z]; exact tk01 q q0 q1
          · rw [e140, e138] at m2
            rw [e140] at m3
            have s140 : σ2 140 = up1 (σ 140) nx 1 := by rw [m1 140 (by decide), e140]
            have s133 : σ2 133 = σ1 133 := by rw [m1 133 (by decide), sc_at, if_neg (by decide)]
            have s135 : σ2 135 = σ1 135 := by rw [m1 135 (by decide), sc_at, if_neg (by decide)]
            have un : ∀ p, thr f p → up1 (σ 140) nx 1 p = 0 → p ≠ nx ∧ σ 140 p = 0 := fun p hp h0 => by
              by_cases z : p = nx
              · rw [z, up1_s] at h0; omega
              · rw [up1_n z] at h0; exact ⟨z, h0⟩
            have np : ∀ p, thr f p → up1 (σ 140) nx 1 p = 0 → σ2 138 p = min (σ 138 p) (wE f p nx) := fun p hp h0 => (m2 p hp.1.1 hp.1.2).1 ⟨hp.1.2, hp.2, h0⟩
            have prp : prP f σ2 (i + 1) r := by
              refine ⟨?_, fun p p0 p1 => ?_, ?_, ?_, fun z => by omega, fun _ p hp h0 => ?_, ?_⟩
              · rw [s140, cntF_one (f := σ 140) (r := nx) (d := 1) (by rw [up1_s, z2]; rfl) 40 0 0 x0 (by omega) (fun q q0 q1 hq => up1_n hq), a1]
              · rw [s140]
                by_cases z : p = nx
                · rw [z, up1_s]; exact Or.inr ⟨rfl, xf⟩
                · rw [up1_n z]; exact a2 p p0 p1
              · rw [s133]
                exact ⟨by omega, fun z => by omega, fun _ => g8⟩
              · rw [s133, s135, s140]; exact gl
              · rw [s140] at h0 ⊢
                obtain ⟨u1, u2⟩ := un p hp h0
                rw [np p hp h0]
                by_cases zi : i = 0
                · have b5 := a5 zi p hp.1.1 hp.1.2
                  have wl : wE f p nx < 4194304 := by
                    by_cases y : p ≤ nx
                    · exact (wE_in hw hp hx y).1.2
                    · rw [wE_cm]; exact (wE_in hw hx hp (by omega)).1.2
                  have em : min (σ 138 p) (wE f p nx) = wE f p nx := by rw [b5]; omega
                  rw [em]
                  refine ⟨⟨nx, hx, up1_s _ _ _, rfl⟩, fun t ht h1 => ?_⟩
                  by_cases z : t = nx
                  · rw [z]; exact Int.le_refl _
                  · rw [up1_n z] at h1
                    have : 0 < cntF (σ 140) 40 0 0 := by
                      rcases cntF_ex (g := σ 140) (fun q q0 q1 => tk01 q q0 q1) 40 0 0 (by omega) (by omega) with w | w
                      · exact w
                      · have := w t ht.1.1 ht.1.2; omega
                    omega
                · obtain ⟨⟨t, ht, ht1, ht2⟩, hall⟩ := a6 (by omega) p hp u2
                  have tn : t ≠ nx := fun z => by rw [z] at ht1; omega
                  refine ⟨?_, fun t' ht' h1 => ?_⟩
                  · by_cases y : σ 138 p ≤ wE f p nx
                    · exact ⟨t, ht, by rw [up1_n tn]; exact ht1, by rw [← ht2]; omega⟩
                    · exact ⟨nx, hx, up1_s _ _ _, by omega⟩
                  · by_cases z : t' = nx
                    · rw [z]; omega
                    · rw [up1_n z] at h1
                      have := hall t' ht' h1
                      omega
              · rw [s140]
                rcases m3 with ⟨w1, w2⟩ | ⟨w1, w2, w3, w4⟩
                · refine Or.inl ⟨w1, fun p hp => ?_⟩
                  have := w2 p hp.1.1 hp.1.2 hp.2
                  by_cases z : p = nx
                  · rw [z, up1_s]
                  · rw [up1_n z] at this ⊢
                    rcases tk01 p hp.1.1 hp.1.2 with y | y
                    · exact absurd y this
                    · exact y
                · exact Or.inr ⟨⟨w1, w2⟩, w3, fun _ p hp h0 => w4 p hp.1.1 hp.1.2 hp.2 h0⟩
            have nxt := ih (i + 1) r σ2 (by omega) (by omega) (rL_7k hr2 (fun k k0 k1 => m1 k (by omega))) (by rw [m1 7 (by decide), sc_at, if_neg (by decide), g1.1 7 (by decide) (by decide) (by decide) (by decide), h6]) prp (fun σ' q1 q2 => hK σ' (k113_tr g1 (k113_tr ⟨fun q b d e g => by rw [m1 q e, sc_at, if_neg g], fun j hj => by rw [s133]⟩ q1)) q2)
            simp only [s113_92, s113_93, s113_96, Int.reduceToNat, Int.reducePow, Nat.reducePow, Int.reduceLE, Int.reduceLT, Int.reduceNeg, Int.reduceEq, Int.reduceNe, Int.reduceAdd, Int.reduceSub, Int.reduceMul, and_self, sx_push, tf, List.length_cons, List.length_nil, Option.some.injEq, exists_eq_left', Nat.reduceAdd, Nat.reduceLeDiff, true_and, and_true, true_or, or_true, Int.zero_add, Nat.zero_le, eq_self, ne_eq, not_true_eq_false, not_false_eq_true, false_implies, true_implies, implies_true, b2i_0, b2i_1, b2i_01, up_sc, sc_at, sc_sc, ite_true, ite_false, if_true, if_false, Nat.reduceEqDiff, reduceIte]
            repeat' (first | intro _ | refine And.intro ?_ ?_)
            all_goals first | omega | exact nxt
        simp only [s113_80, s113_81, s113_84, s113_85, s113_86, s113_87, s113_88, s113_89, Int.reduceToNat, Int.reducePow, Nat.reducePow, Int.reduceLE, Int.reduceLT, Int.reduceNeg, Int.reduceEq, Int.reduceNe, Int.reduceAdd, Int.reduceSub, Int.reduceMul, and_self, sx_push, tf, List.length_cons, List.length_nil, Option.some.injEq, exists_eq_left', Nat.reduceAdd, Nat.reduceLeDiff, true_and, and_true, true_or, or_true, Int.zero_add, Nat.zero_le, eq_self, ne_eq, not_true_eq_false, not_false_eq_true, false_implies, true_implies, implies_true, b2i_0, b2i_1, b2i_01, up_sc, sc_at, sc_sc, ite_true, ite_false, if_true, if_false, Nat.reduceEqDiff, reduceIte]
        repeat' (first | intro _ | refine And.intro ?_ ?_)
        all_goals first | omega | exact gro
      by_cases zi : i = 0
      · have nxt := main σ ⟨fun _ _ _ _ _ => rfl, fun _ _ => rfl⟩ rfl rfl (by have := a3.2.1 zi; omega) (by
          have e0 := a3.2.1 zi
          rw [e0]
          exact ⟨fun j j0 j1 => by omega, fun i j i0 ij jm => by omega⟩)
        rw [s113_44]
        simp only [s113_45, s113_46, s113_49, s113_52, s113_55, s113_56, s113_59, s113_60, s113_63, s113_66, s113_67, Int.reduceToNat, Int.reducePow, Nat.reducePow, Int.reduceLE, Int.reduceLT, Int.reduceNeg, Int.reduceEq, Int.reduceNe, Int.reduceAdd, Int.reduceSub, Int.reduceMul, and_self, sx_push, tf, List.length_cons, List.length_nil, Option.some.injEq, exists_eq_left', Nat.reduceAdd, Nat.reduceLeDiff, true_and, and_true, true_or, or_true, Int.zero_add, Nat.zero_le, eq_self, ne_eq, not_true_eq_false, not_false_eq_true, false_implies, true_implies, implies_true, b2i_0, b2i_1, b2i_01, up_sc, sc_at, sc_sc, ite_true, ite_false, if_true, if_false, Nat.reduceEqDiff, reduceIte, h6, x49 isP7 hr]
        repeat' (first | intro _ | refine And.intro ?_ ?_)
        all_goals first | omega | exact nxt
      · have m1 := a3.2.2 (by omega)
        have put : Rn 114 0 [some (vR 133), some (vI (σ 138 nx)), none] [] (T0 n) σ (fun r T' σ' => Rn 113 80 [some (vR 133), some (vI nx), some (vI i)] (sx_push r []) T' σ' K) := by
          refine x114 (m := σ 133 8) a3.1 (by omega) rfl (fun σ1 at' q1 q2 q3 q4 q5 q6 q7 q8 q9 => ?_)
          obtain ⟨⟨t, ht, ht1, ht2⟩, hall⟩ := a6 (by omega) nx hx z2
          have tn : t ≠ nx := fun z => by rw [z] at ht1; omega
          have sp : sep f (σ 138 nx) := ⟨fun p => σ 140 p = 1, fun u v hu hv hlt hx1 => by
            rcases tk01 v hv.1.1 hv.1.2 with y | y
            · have b1 := (a6 (by omega) v hv y).2 u hu hx1
              have b2 := z3 (by omega) v hv y
              rw [wE_cm] at b1
              omega
            · exact y, fun a b ha hb hab e he => by
            rw [ht2] at e
            have two : (a = nx ∧ b = t) ∨ (a = t ∧ b = nx) := by
              by_cases y : nx ≤ t
              · have := wE_inj hw hx ht ha hb y (by omega) e
                exact Or.inl ⟨this.1.symm, this.2.symm⟩
              · rw [wE_cm] at e
                have := wE_inj hw ht hx ha hb (by omega) (by omega) e
                exact Or.inr ⟨this.1.symm, this.2.symm⟩
            rcases two with ⟨rfl, rfl⟩ | ⟨rfl, rfl⟩
            · have := he.mpr ht1
              omega
            · have := he.mp ht1
              omega⟩
          refine main σ1 ⟨fun q b d e g => q1 q b d, q2⟩ (q1 140 (by decide) (by decide)) (q1 138 (by decide) (by decide)) (by omega) ?_
          rw [q3]
          refine lkP_ins (tk' := up1 (σ 140) nx 1) a4 (fun p hp => ?_) q4 q5 q6 q7 q8 q9 ?_ sp (fun j j0 j1 e => ?_)
          · by_cases z : p = nx
            · rw [z, up1_s]
            · rw [up1_n z]; exact hp
          · by_cases y : nx ≤ t
            · exact ⟨nx, t, hx, ht, by omega, ht2, up1_s _ _ _, by rw [up1_n tn]; exact ht1⟩
            · exact ⟨t, nx, ht, hx, by omega, by rw [ht2, wE_cm], by rw [up1_n tn]; exact ht1, up1_s _ _ _⟩
          · obtain ⟨⟨a, b, ha, hb, hab, e2, ta, tb⟩, _⟩ := a4.1 j j0 j1
            rw [e2, ht2] at e
            by_cases y : nx ≤ t
            · have := wE_inj hw ha hb hx ht (by omega) y e
              rw [this.1] at ta; omega
            · rw [wE_cm f nx t] at e
              have := wE_inj hw ha hb ht hx (by omega) (by omega) e
              rw [this.2] at tb; omega
        rw [s113_44]
        simp only [s113_45, s113_46, s113_49, s113_52, s113_55, s113_56, s113_59, s113_60, s113_63, s113_66, s113_67, s113_70, s113_71, s113_72, s113_75, s113_76, s113_77, Int.reduceToNat, Int.reducePow, Nat.reducePow, Int.reduceLE, Int.reduceLT, Int.reduceNeg, Int.reduceEq, Int.reduceNe, Int.reduceAdd, Int.reduceSub, Int.reduceMul, and_self, sx_push, tf, List.length_cons, List.length_nil, Option.some.injEq, exists_eq_left', Nat.reduceAdd, Nat.reduceLeDiff, true_and, and_true, true_or, or_true, Int.zero_add, Nat.zero_le, eq_self, ne_eq, not_true_eq_false, not_false_eq_true, false_implies, true_implies, implies_true, b2i_0, b2i_1, b2i_01, up_sc, sc_at, sc_sc, ite_true, ite_false, if_true, if_false, Nat.reduceEqDiff, reduceIte, h6, x49 isP7 hr]
        repeat' (first | intro _ | refine And.intro ?_ ?_)
        all_goals first | omega | exact put
theorem x113 (hA : rA σ 7 f) (hi : invF f) (hK : ∀ σ', k113 σ σ' → jaP f (σ' 135) (σ' 133 8) → K none (T0 n) σ') : Rn 113 0 [some (vR 133), none, none] [] (T0 n) σ K := by
  obtain ⟨hr, hp, h5, h6⟩ := hA
  obtain ⟨h01, hw, ht, h1⟩ := hi
  have cm := cntF_in h01 40 0 0 (by omega) (by omega)
  have go : Rn 113 7 [some (vR 133), some (vI 0), none] [] (T0 n) (sc σ 133 (up1 (σ 133) 8 0)) K := by
    refine x113i (σ := sc σ 133 (up1 (σ 133) 8 0)) 40 0 none _ (by omega) (by omega) (fun _ _ _ => rfl) (fun q q0 q1 => by omega) (fun σ1 f1 f2 => ?_)
    have e133 : σ1 133 = up1 (σ 133) 8 0 := by rw [f1 133 (by decide) (by decide), sc_at, if_pos rfl]
    have kk : k113 σ σ1 := ⟨fun q a b d e => by rw [f1 q d e, sc_at, if_neg a], fun j hj => by rw [e133, up1_n hj]⟩
    have e7 : σ1 7 = σ 7 := kk.1 7 (by decide) (by decide) (by decide) (by decide)
    have lp : Rn 113 44 [some (vR 133), some (vI (rootF f 40 0)), some (vI 0)] [] (T0 n) σ1 K := by
      refine x113l h01 hw (cntF f 40 0 0).toNat 0 (rootF f 40 0) σ1 (by omega) (by omega) (rL_7k hr (fun k k0 k1 => kk.1 k (by omega) (by omega) (by omega) (by omega))) (by rw [e7, h6]) ⟨?_, fun p p0 p1 => Or.inl (f2 p p0 p1).1, ?_, ?_, fun _ p p0 p1 => (f2 p p0 p1).2, fun z => by omega, ?_⟩ (fun σ' q1 q2 => hK σ' (k113_tr kk q1) q2)
      · exact cntF_none 40 0 0 (by omega) (fun q q0 q1 => (f2 q q0 q1).1)
      · rw [e133, up1_s]; omega
      · rw [e133, up1_s]
        exact ⟨fun j j0 j1 => by omega, fun i j i0 ij jm => by omega⟩
      · rcases rootF_sp f 40 0 with ⟨w1, w2⟩ | ⟨w1, w2, w3, w4⟩
        · refine Or.inl ⟨w1, fun p hp => ?_⟩
          obtain ⟨r, r0, r1, r2, r3⟩ := h1.2 p hp.1.1 hp.1.2 hp.2
          exact absurd ⟨r2, by omega⟩ (w2 r r0 (by omega))
        · exact Or.inr ⟨⟨⟨w1, by omega⟩, w3⟩, (f2 _ w1 (by omega)).1, fun z => by omega⟩
    have e5 : σ1 7 5 = rootF f 40 0 := by rw [e7, h5]
    simp only [s113_34, s113_35, s113_38, s113_41, s113_42, s113_43, Int.reduceToNat, Int.reducePow, Nat.reducePow, Int.reduceLE, Int.reduceLT, Int.reduceNeg, Int.reduceEq, Int.reduceNe, Int.reduceAdd, Int.reduceSub, Int.reduceMul, and_self, sx_push, tf, List.length_cons, List.length_nil, Option.some.injEq, exists_eq_left', Nat.reduceAdd, Nat.reduceLeDiff, true_and, and_true, true_or, or_true, Int.zero_add, Nat.zero_le, eq_self, ne_eq, not_true_eq_false, not_false_eq_true, false_implies, true_implies, implies_true, b2i_0, b2i_1, b2i_01, up_sc, sc_at, sc_sc, ite_true, ite_false, if_true, if_false, Nat.reduceEqDiff, reduceIte, e5]
    repeat' (first | intro _ | refine And.intro ?_ ?_)
    all_goals first | omega | exact lp
  simp only [s113_0, s113_1, s113_2, s113_5, s113_6, Int.reduceToNat, Int.reducePow, Nat.reducePow, Int.reduceLE, Int.reduceLT, Int.reduceNeg, Int.reduceEq, Int.reduceNe, Int.reduceAdd, Int.reduceSub, Int.reduceMul, and_self, sx_push, tf, List.length_cons, List.length_nil, Option.some.injEq, exists_eq_left', Nat.reduceAdd, Nat.reduceLeDiff, true_and, and_true, true_or, or_true, Int.zero_add, Nat.zero_le, eq_self, ne_eq, not_true_eq_false, not_false_eq_true, false_implies, true_implies, implies_true, b2i_0, b2i_1, b2i_01, up_sc, sc_at, sc_sc, ite_true, ite_false, if_true, if_false, Nat.reduceEqDiff, reduceIte]
  repeat' (first | intro _ | refine And.intro ?_ ?_)
  all_goals first | omega | exact go
end L3
