/-! a text: names, places: the class -/
/-- a row with the name that stands at s up to e set at c -/
def nmSt (F : Int → Int) (c : Int) (t : Int → Int) (s e : Int) : Int → Int := fun j => if 240 + 6 * c ≤ j ∧ j < 246 + 6 * c then dgT (fun i => t (s + i)) (e - s) (j - (240 + 6 * c)) else F j
theorem nmSt_o {F t : Int → Int} {c s e j : Int} (h : j < 240 + 6 * c ∨ 246 + 6 * c ≤ j) : nmSt F c t s e j = F j := by
  unfold nmSt; rw [if_neg (by omega)]
theorem nmSt_c {F t : Int → Int} {c s e i : Int} (h0 : 0 ≤ i) (h5 : i ≤ 5) : nmSt F c t s e (240 + 6 * c + i) = dgT (fun i => t (s + i)) (e - s) i := by
  unfold nmSt; rw [if_pos (by omega), show 240 + 6 * c + i - (240 + 6 * c) = i by omega]
theorem nmSt_F {F t : Int → Int} {c s e : Int} : nmF (nmSt F c t s e) c = nmD (fun i => t (s + i)) (e - s) := by
  have e0 := nmSt_c (F := F) (t := t) (c := c) (s := s) (e := e) (i := 0) (by omega) (by omega)
  rw [Int.add_zero] at e0
  unfold nmF nmD
  rw [e0, nmSt_c (by omega) (by omega), nmSt_c (by omega) (by omega), nmSt_c (by omega) (by omega), nmSt_c (by omega) (by omega), nmSt_c (by omega) (by omega)]
theorem nmSt_q {F t : Int → Int} {c s e q : Int} (h : q ≠ c) : nmF (nmSt F c t s e) q = nmF F q := by
  unfold nmF
  rw [nmSt_o (by omega), nmSt_o (by omega), nmSt_o (by omega), nmSt_o (by omega), nmSt_o (by omega), nmSt_o (by omega)]
def nmG (t : Int → Int) (L c : Int) (F : Int → Int) (a : Int) (F' : Int → Int) (e : Int) : Prop := sml (bt t L (skF t L 1600 a)) ∧ ownP t L (skF t L 1600 a) = -1 ∧ e = ltF t L 1600 (skF t L 1600 a) ∧ e - skF t L 1600 a ≤ 6 ∧ (∀ q, 0 ≤ q → q < c → nmF F q ≠ nmD (fun i => t (skF t L 1600 a + i)) (e - skF t L 1600 a)) ∧ F' = nmSt F c t (skF t L 1600 a) e
def nmB (t : Int → Int) (L c : Int) (F : Int → Int) (a k p : Int) : Prop := ((¬ sml (bt t L (skF t L 1600 a)) ∨ ownP t L (skF t L 1600 a) ≠ -1) ∧ k = 1 ∧ p = skF t L 1600 a) ∨ (sml (bt t L (skF t L 1600 a)) ∧ ownP t L (skF t L 1600 a) = -1 ∧ ((6 < ltF t L 1600 (skF t L 1600 a) - skF t L 1600 a ∧ k = 1 ∧ p = skF t L 1600 a + 6) ∨ (ltF t L 1600 (skF t L 1600 a) - skF t L 1600 a ≤ 6 ∧ (∃ q, 0 ≤ q ∧ q < c ∧ nmF F q = nmD (fun i => t (skF t L 1600 a + i)) (ltF t L 1600 (skF t L 1600 a) - skF t L 1600 a)) ∧ k = 3 ∧ p = skF t L 1600 a)))
/-- what the class has read: c points as a row -/
def cSt (σ : sxS) (c : Int) (F : Int → Int) : Prop := σ 4 4 = c ∧ (0 ≤ c ∧ c ≤ 40) ∧ ∀ q, 0 ≤ q → q < c → σ 6 q = nmF F q ∧ σ 5 q = pk (F (40 + q)) (F (80 + q)) (F (120 + q)) ∧ in8 (F (40 + q)) ∧ in8 (F (80 + q)) ∧ in8 (F (120 + q))
def c46 (σ σ' : sxS) : Prop := ∀ q, q ≠ 4 → q ≠ 5 → q ≠ 6 → σ' q = σ q
theorem c46_tp {σ σ' : sxS} {t : Int → Int} {L : Int} (h : tpOk σ t L) (hc : c46 σ σ') : tpOk σ' t L := by
  unfold tpOk at h ⊢
  rw [hc 2 (by decide) (by decide) (by decide), hc 3 (by decide) (by decide) (by decide)]
  exact h
theorem c46_4 {σ σ' : sxS} (h : c4 σ σ') : c46 σ σ' := fun q q4 _ _ => h q q4
theorem c46_tr {σ σ' σ'' : sxS} (h1 : c46 σ σ') (h2 : c46 σ' σ'') : c46 σ σ'' := fun q a b d => by rw [h2 q a b d, h1 q a b d]
section S8
variable {n : Nat} {σ : sxS} {K : Option sxV → sxT → sxS → Prop} {t : Int → Int} {L : Int}
theorem x27l {s m : Int} (s0 : 0 ≤ s) (m6 : m ≤ 6) (hl : ∀ j, s ≤ j → j < s + m → sml (bt t L j)) (hm : m = 6 ∨ ¬ sml (bt t L (s + m))) : ∀ (r : Nat) (i a : Int) (σ : sxS), i + r = m → 0 ≤ i → 0 ≤ a → a < 2 ^ (5 * i).toNat → tpOk σ t L → σ 4 7 = s + i → (∀ σ', c4 σ σ' → (∀ j, j ≠ 7 → σ' 4 j = σ 4 j) → σ' 4 7 = s + m → Rn 27 103 [some (vR 4), some (vI s), some (vI (nmJ (fun i => t (s + i)) r i a)), some (vI m)] [] (T0 n) σ' K) → Rn 27 41 [some (vR 4), some (vI s), some (vI a), some (vI i)] [] (T0 n) σ K := by
  intro r
  induction r with
  | zero =>
    intro i a σ hi i0 a0 a1 h h7 hK
    obtain rfl : i = m := by omega
    have hK := hK σ (fun q _ => rfl) (fun j _ => rfl) h7
    unfold nmJ at hK
    unfold sml at hm
    rw [s27_41]
    simp only [s27_42, s27_44, s27_47, s27_48, s27_51, s27_52, s27_55, s27_58, s27_61, Int.reduceToNat, Int.reducePow, Nat.reducePow, Int.reduceLE, Int.reduceLT, Int.reduceNeg, Int.reduceEq, Int.reduceNe, Int.reduceAdd, Int.reduceSub, Int.reduceMul, and_self, sx_push, tf, List.length_cons, List.length_nil, Option.some.injEq, exists_eq_left', Nat.reduceAdd, Nat.reduceLeDiff, true_and, and_true, true_or, or_true, Int.zero_add, Nat.zero_le, eq_self, ne_eq, not_true_eq_false, not_false_eq_true, false_implies, true_implies, implies_true, b2i_0, b2i_1, b2i_01, up_sc, sc_at, sc_sc, ite_true, ite_false, if_true, if_false, Nat.reduceEqDiff, reduceIte, x20b h, x22, h7]
    repeat' (first | intro _ | refine And.intro ?_ ?_)
    all_goals first | omega | exact hK
  | succ r ih =>
    intro i a σ hi i0 a0 a1 h h7 hK
    have pp := p32 (i := i) i0 (by omega)
    have sm := hl (s + i) (by omega) (by omega)
    have iL := bt_sm sm (by omega)
    have h2 := h.2.1
    have bb : bt t L (s + i) = t (s + i) := bt_in (by omega) iL
    unfold sml at sm
    rw [bb] at sm
    have e1 : t (s + i) - 97 + 1 = t (s + i) - 96 := by omega
    have mb : (t (s + i) - 96) * 2 ^ (5 * i).toNat ≤ 26 * 2 ^ (5 * i).toNat := Int.mul_le_mul_of_nonneg_right (by omega) (by omega)
    have mn : 0 ≤ (t (s + i) - 96) * 2 ^ (5 * i).toNat := Int.mul_nonneg (by omega) (by omega)
    have oa := or_add (a := a) (b := t (s + i) - 96) (k := (5 * i).toNat) a0 a1 (by omega) (by omega)
    have x22' := fun K => x22 (n := n) (σ := σ) (K := K) (a := t (s + i))
    rw [b2i_t sm] at x22'
    have go := ih (i + 1) (a + (t (s + i) - 96) * 2 ^ (5 * i).toNat) (sc σ 4 (up1 (σ 4) 7 (s + (i + 1)))) (by omega) (by omega) (by omega) (by rw [pp.2.2]; omega) (tpOk_4 h) (by rw [sc_at, if_pos rfl, up1_s]) (fun σ' f1 f2 f3 => hK σ' (fun q hq => by rw [f1 q hq, sc_at, if_neg hq]) (fun j hj => by rw [f2 j hj, sc_at, if_pos rfl, up1_n hj]) f3)
    rw [s27_41]
    simp only [s27_42, s27_44, s27_47, s27_48, s27_51, s27_52, s27_55, s27_58, s27_61, s27_64, s27_65, s27_66, s27_69, s27_70, s27_73, s27_76, s27_78, s27_79, s27_80, s27_81, s27_82, s27_83, s27_84, s27_85, s27_86, s27_87, s27_88, s27_89, s27_92, s27_93, s27_94, s27_97, s27_100, Int.reduceToNat, Int.reducePow, Nat.reducePow, Int.reduceLE, Int.reduceLT, Int.reduceNeg, Int.reduceEq, Int.reduceNe, Int.reduceAdd, Int.reduceSub, Int.reduceMul, and_self, sx_push, tf, List.length_cons, List.length_nil, Option.some.injEq, exists_eq_left', Nat.reduceAdd, Nat.reduceLeDiff, true_and, and_true, true_or, or_true, Int.zero_add, Nat.zero_le, eq_self, ne_eq, not_true_eq_false, not_false_eq_true, false_implies, true_implies, implies_true, b2i_0, b2i_1, b2i_01, up_sc, sc_at, sc_sc, ite_true, ite_false, if_true, if_false, Nat.reduceEqDiff, reduceIte, x20b h, bb, x22', h7, e1, oa]
    rw [show s + i + 1 = s + (i + 1) by omega]
    repeat' (first | intro _ | refine And.intro ?_ ?_)
    all_goals first | omega | contradiction | exact go
theorem x27 (h : tpOk σ t L) {a c : Int} {F : Int → Int} (ha : σ 4 7 = a) (a0 : 0 ≤ a) (a1 : a ≤ L) (hS : cSt σ c F) (c1 : c < 40) (hK1 : ∀ σ' F' e, nmG t L c F a F' e → c46 σ σ' → σ' 5 = σ 5 → (∀ j, j ≠ 7 → σ' 4 j = σ 4 j) → σ' 4 7 = e → (∀ q, 0 ≤ q → q ≤ c → σ' 6 q = nmF F' q) → K (some (vI 1)) (T0 n) σ') (hK0 : ∀ σ' k p, nmB t L c F a k p → c46 σ σ' → (∀ j, j ≠ 5 → j ≠ 6 → j ≠ 7 → σ' 4 j = σ 4 j) → σ' 4 5 = k → σ' 4 6 = p → K (some (vI 0)) (T0 n) σ') : Rn 27 0 [some (vR 4), none, none, none] [] (T0 n) σ K := by
  have h2 := h.2.1
  have sk := skF_in (t := t) (L := L) 1600 a a0 a1 (by omega)
  simp only [s27_0, s27_1, Int.reduceToNat, Int.reducePow, Nat.reducePow, Int.reduceLE, Int.reduceLT, Int.reduceNeg, Int.reduceEq, Int.reduceNe, Int.reduceAdd, Int.reduceSub, Int.reduceMul, and_self, sx_push, tf, List.length_cons, List.length_nil, Option.some.injEq, exists_eq_left', Nat.reduceAdd, Nat.reduceLeDiff, true_and, and_true, true_or, or_true, Int.zero_add, Nat.zero_le, eq_self, ne_eq, not_true_eq_false, not_false_eq_true, false_implies, true_implies, implies_true, b2i_0, b2i_1, b2i_01, up_sc, sc_at, sc_sc, ite_true, ite_false, if_true, if_false, Nat.reduceEqDiff, reduceIte]
  refine x19 1600 a σ h ha a0 a1 (by omega) ?_
  unfold nmG at hK1
  unfold nmB at hK0
  generalize skF t L 1600 a = s at *
  have u7 : up1 (σ 4) 7 s 7 = s := up1_s _ _ _
  have hT := tpOk_4 (g := up1 (σ 4) 7 s) h
  have hb := fun i K => x20b (n := n) hT (i := i) K
  have ho := fun K => x28 (n := n) (K := K) hT (a := s) (by rw [sc_at, if_pos rfl, up1_s]) (by omega) (by omega)
  have fr4 : ∀ (σ : sxS) k a, c4 σ (sc σ 4 (up1 (up1 (σ 4) 5 k) 6 a)) ∧ (∀ j, j ≠ 5 → j ≠ 6 → sc σ 4 (up1 (up1 (σ 4) 5 k) 6 a) 4 j = σ 4 j) ∧ sc σ 4 (up1 (up1 (σ 4) 5 k) 6 a) 4 5 = k ∧ sc σ 4 (up1 (up1 (σ 4) 5 k) 6 a) 4 6 = a := fun σ k a => ⟨fun q hq => by rw [sc_at, if_neg hq], fun j j5 j6 => by rw [sc_at, if_pos rfl, up1_n j6, up1_n j5], by rw [sc_at, if_pos rfl, up1_n (by decide), up1_s], by rw [sc_at, if_pos rfl, up1_s]⟩
  by_cases e : sml (bt t L s) ∧ ownP t L s = -1
  · obtain ⟨l1, l2, l3⟩ := ltF_in (t := t) (L := L) 1600 s (by omega) (by omega) (by omega)
    have sL := bt_sm e.1 (by omega)
    have se : ltF t L 1600 s ≠ s := fun z => by rw [z] at l3; exact l3 e.1
    generalize hE : ltF t L 1600 s = E at *
    have main : ∀ σ1, c4 σ σ1 → (∀ j, j ≠ 7 → σ1 4 j = σ 4 j) → σ1 4 7 = s → Rn 27 41 [some (vR 4), some (vI s), some (vI 0), some (vI 0)] [] (T0 n) σ1 K := by
      intro σ1 f1 f2 f3
      have t1 := c4_tp h f1
      by_cases y : 6 < E - s
      · refine x27l (m := 6) (by omega) (by omega) (fun j j0 j1 => l2 j j0 (by omega)) (Or.inl rfl) 6 0 0 σ1 (by omega) (by omega) (by omega) (by decide) t1 (by rw [f3]; omega) (fun σ2 g1 g2 g3 => ?_)
        have t2 := c4_tp t1 g1
        have sm := l2 (s + 6) (by omega) (by omega)
        obtain ⟨p1, p2, p3, p4⟩ := fr4 σ2 1 (s + 6)
        have hK := hK0 _ 1 (s + 6) (Or.inr ⟨e.1, e.2, Or.inl ⟨y, rfl, rfl⟩⟩) (c46_4 (c4_tr (c4_tr f1 g1) p1)) (fun j j5 j6 j7 => by rw [p2 j j5 j6, g2 j j7, f2 j j7]) p3 p4
        unfold sml at sm
        simp only [s27_103, s27_104, s27_107, s27_108, s27_111, s27_114, s27_117, s27_120, s27_121, s27_122, s27_123, s27_126, s27_129, Int.reduceToNat, Int.reducePow, Nat.reducePow, Int.reduceLE, Int.reduceLT, Int.reduceNeg, Int.reduceEq, Int.reduceNe, Int.reduceAdd, Int.reduceSub, Int.reduceMul, and_self, sx_push, tf, List.length_cons, List.length_nil, Option.some.injEq, exists_eq_left', Nat.reduceAdd, Nat.reduceLeDiff, true_and, and_true, true_or, or_true, Int.zero_add, Nat.zero_le, eq_self, ne_eq, not_true_eq_false, not_false_eq_true, false_implies, true_implies, implies_true, b2i_0, b2i_1, b2i_01, up_sc, sc_at, sc_sc, ite_true, ite_false, if_true, if_false, Nat.reduceEqDiff, reduceIte, x20b t2, x22, x23, g3]
        repeat' (first | intro _ | refine And.intro ?_ ?_)
        all_goals first | omega | exact hK
      · refine x27l (m := E - s) (by omega) (by omega) (fun j j0 j1 => l2 j j0 (by omega)) (Or.inr (by rw [show s + (E - s) = E by omega]; exact l3)) (E - s).toNat 0 0 σ1 (by omega) (by omega) (by omega) (by decide) t1 (by rw [f3]; omega) (fun σ2 g1 g2 g3 => ?_)
        have t2 := c4_tp t1 g1
        rw [nmJ_eq (by omega) (by omega)]
        rw [show s + (E - s) = E by omega] at g3
        generalize hv : nmD (fun i => t (s + i)) (E - s) = v at *
        have fc := c4_tr f1 g1
        have fj : ∀ j, j ≠ 7 → σ2 4 j = σ 4 j := fun j j7 => by rw [g2 j j7, f2 j j7]
        obtain ⟨s1, s2, s3⟩ := hS
        have q4 : σ2 4 4 = c := by rw [fj 4 (by decide), s1]
        have q6 : σ2 6 = σ 6 := fc 6 (by decide)
        have am : Rn 29 2 [some (vR 4), some (vR 6), some (vI v), some (vI 0)] [] (T0 n) σ2 (fun r T' σ' => Rn 27 139 [some (vR 4), some (vI s), some (vI v), some (vI (E - s))] (sx_push r []) T' σ' K) := by
          refine x29 (Or.inr rfl) q4 s2.2 (fun z => ?_) (fun z => ?_) 40 0 (by omega) (by omega) (fun j j0 j1 => by omega)
          · obtain ⟨i, i0, i1, i2⟩ := z
            obtain ⟨p1, p2, p3, p4⟩ := fr4 σ2 3 s
            have hK := hK0 _ 3 s (Or.inr ⟨e.1, e.2, Or.inr ⟨by omega, ⟨i, i0, i1, by rw [← (s3 i i0 i1).1, ← q6]; exact i2⟩, rfl, rfl⟩⟩) (c46_4 (c4_tr fc p1)) (fun j j5 j6 j7 => by rw [p2 j j5 j6, fj j j7]) p3 p4
            simp only [s27_139, s27_142, s27_143, s27_144, s27_145, s27_148, Int.reduceToNat, Int.reducePow, Nat.reducePow, Int.reduceLE, Int.reduceLT, Int.reduceNeg, Int.reduceEq, Int.reduceNe, Int.reduceAdd, Int.reduceSub, Int.reduceMul, and_self, sx_push, tf, List.length_cons, List.length_nil, Option.some.injEq, exists_eq_left', Nat.reduceAdd, Nat.reduceLeDiff, true_and, and_true, true_or, or_true, Int.zero_add, Nat.zero_le, eq_self, ne_eq, not_true_eq_false, not_false_eq_true, false_implies, true_implies, implies_true, b2i_0, b2i_1, b2i_01, up_sc, sc_at, sc_sc, ite_true, ite_false, if_true, if_false, Nat.reduceEqDiff, reduceIte, x23]
            first | exact hK | (repeat' (first | intro _ | refine And.intro ?_ ?_) <;> first | omega | exact hK)
          · have hK := hK1 (sc σ2 6 (up1 (σ2 6) c v)) (nmSt F c t s E) E ⟨e.1, e.2, rfl, by omega, fun q q0 q1 => by rw [← (s3 q q0 q1).1, ← q6, hv]; exact z q q0 q1, rfl⟩ (fun q k4 k5 k6 => by rw [sc_at, if_neg k6, fc q k4]) (by rw [sc_at, if_neg (by decide), fc 5 (by decide)]) (fun j j7 => by rw [sc_at, if_neg (by decide), fj j j7]) (by rw [sc_at, if_neg (by decide), g3]) (fun q q0 q1 => by
              rw [sc_at, if_pos rfl]
              by_cases y2 : q = c
              · rw [y2, up1_s, nmSt_F, hv]
              · rw [up1_n y2, nmSt_q y2, q6]; exact (s3 q q0 (by omega)).1)
            simp only [s27_139, s27_149, s27_150, s27_153, s27_154, s27_157, s27_158, s27_159, s27_160, Int.reduceToNat, Int.reducePow, Nat.reducePow, Int.reduceLE, Int.reduceLT, Int.reduceNeg, Int.reduceEq, Int.reduceNe, Int.reduceAdd, Int.reduceSub, Int.reduceMul, and_self, sx_push, tf, List.length_cons, List.length_nil, Option.some.injEq, exists_eq_left', Nat.reduceAdd, Nat.reduceLeDiff, true_and, and_true, true_or, or_true, Int.zero_add, Nat.zero_le, eq_self, ne_eq, not_true_eq_false, not_false_eq_true, false_implies, true_implies, implies_true, b2i_0, b2i_1, b2i_01, up_sc, sc_at, sc_sc, ite_true, ite_false, if_true, if_false, Nat.reduceEqDiff, reduceIte, q4]
            repeat' (first | intro _ | refine And.intro ?_ ?_)
            all_goals first | omega | exact hK
        unfold sml at l3
        simp only [s27_103, s27_104, s27_107, s27_108, s27_111, s27_114, s27_117, s27_130, s27_131, s27_132, s27_135, s27_136, Int.reduceToNat, Int.reducePow, Nat.reducePow, Int.reduceLE, Int.reduceLT, Int.reduceNeg, Int.reduceEq, Int.reduceNe, Int.reduceAdd, Int.reduceSub, Int.reduceMul, and_self, sx_push, tf, List.length_cons, List.length_nil, Option.some.injEq, exists_eq_left', Nat.reduceAdd, Nat.reduceLeDiff, true_and, and_true, true_or, or_true, Int.zero_add, Nat.zero_le, eq_self, ne_eq, not_true_eq_false, not_false_eq_true, false_implies, true_implies, implies_true, b2i_0, b2i_1, b2i_01, up_sc, sc_at, sc_sc, ite_true, ite_false, if_true, if_false, Nat.reduceEqDiff, reduceIte, x20b t2, x22, g3]
        simp only [s29_0, s29_1, Int.reduceToNat, Int.reducePow, Nat.reducePow, Int.reduceLE, Int.reduceLT, Int.reduceNeg, Int.reduceEq, Int.reduceNe, Int.reduceAdd, Int.reduceSub, Int.reduceMul, and_self, sx_push, tf, List.length_cons, List.length_nil, Option.some.injEq, exists_eq_left', Nat.reduceAdd, Nat.reduceLeDiff, true_and, and_true, true_or, or_true, Int.zero_add, Nat.zero_le, eq_self, ne_eq, not_true_eq_false, not_false_eq_true, false_implies, true_implies, implies_true, b2i_0, b2i_1, b2i_01, up_sc, sc_at, sc_sc, ite_true, ite_false, if_true, if_false, Nat.reduceEqDiff, reduceIte]
        repeat' (first | intro _ | refine And.intro ?_ ?_)
        all_goals first | omega | exact am
    have go := main (sc σ 4 (up1 (σ 4) 7 s)) (fun q hq => by rw [sc_at, if_neg hq]) (fun j hj => by rw [sc_at, if_pos rfl, up1_n hj]) (by rw [sc_at, if_pos rfl, up1_s])
    have e1 := e.1
    have e2 := e.2
    unfold sml at e1
    simp only [s27_4, s27_5, s27_8, s27_9, s27_10, s27_13, s27_14, s27_17, s27_20, s27_23, s27_24, s27_27, s27_37, s27_38, s27_39, s27_40, Int.reduceToNat, Int.reducePow, Nat.reducePow, Int.reduceLE, Int.reduceLT, Int.reduceNeg, Int.reduceEq, Int.reduceNe, Int.reduceAdd, Int.reduceSub, Int.reduceMul, and_self, sx_push, tf, List.length_cons, List.length_nil, Option.some.injEq, exists_eq_left', Nat.reduceAdd, Nat.reduceLeDiff, true_and, and_true, true_or, or_true, Int.zero_add, Nat.zero_le, eq_self, ne_eq, not_true_eq_false, not_false_eq_true, false_implies, true_implies, implies_true, b2i_0, b2i_1, b2i_01, up_sc, sc_at, sc_sc, ite_true, ite_false, if_true, if_false, Nat.reduceEqDiff, reduceIte, u7, hb, x22, ho, e2]
    repeat' (first | intro _ | refine And.intro ?_ ?_)
    all_goals first | omega | contradiction | exact go
  · obtain ⟨p1, p2, p3, p4⟩ := fr4 (sc σ 4 (up1 (σ 4) 7 s)) 1 s
    have hK := hK0 _ 1 s (Or.inl ⟨by
      by_cases y : sml (bt t L s)
      · exact Or.inr (fun z => e ⟨y, z⟩)
      · exact Or.inl y, rfl, rfl⟩) (c46_4 (c4_tr (fun q hq => by rw [sc_at, if_neg hq]) p1)) (fun j j5 j6 j7 => by rw [p2 j j5 j6, sc_at, if_pos rfl, up1_n j7]) p3 p4
    simp only [sc_at, reduceIte, sc_sc] at hK
    unfold sml at e
    simp only [s27_4, s27_5, s27_8, s27_9, s27_10, s27_13, s27_14, s27_17, s27_20, s27_23, s27_24, s27_27, s27_30, s27_31, s27_32, s27_33, s27_36, Int.reduceToNat, Int.reducePow, Nat.reducePow, Int.reduceLE, Int.reduceLT, Int.reduceNeg, Int.reduceEq, Int.reduceNe, Int.reduceAdd, Int.reduceSub, Int.reduceMul, and_self, sx_push, tf, List.length_cons, List.length_nil, Option.some.injEq, exists_eq_left', Nat.reduceAdd, Nat.reduceLeDiff, true_and, and_true, true_or, or_true, Int.zero_add, Nat.zero_le, eq_self, ne_eq, not_true_eq_false, not_false_eq_true, false_implies, true_implies, implies_true, b2i_0, b2i_1, b2i_01, up_sc, sc_at, sc_sc, ite_true, ite_false, if_true, if_false, Nat.reduceEqDiff, reduceIte, u7, hb, x22, x23, ho]
    repeat' (first | intro _ | refine And.intro ?_ ?_)
    all_goals first | omega | exact hK
end S8
