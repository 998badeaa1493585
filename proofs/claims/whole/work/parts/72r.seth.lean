/-! set: the reference, and the two -/
section SH
variable {n : Nat} {c : Int} {σ : sxS} {K : Option sxV → sxT → sxS → Prop} {F : Int → Int}
theorem x173z {v : Int} {w : Option sxV} : ∀ (k : Nat) (i : Int), i + k = 481 → 0 ≤ i → Rn 173 79 [some (vR 149), some (vI v), some (vI 481), w] [] (T0 n) (sc σ 150 (blkF (fun _ => 0) 0 (σ 150) 481)) K → Rn 173 59 [some (vR 149), some (vI v), some (vI i), w] [] (T0 n) (sc σ 150 (blkF (fun _ => 0) 0 (σ 150) i)) K := by
  intro k
  induction k with
  | zero =>
    intro i hi h0 hK
    obtain rfl : i = 481 := by omega
    rw [s173_59]
    simp only [s173_60, s173_63, Int.reduceToNat, Int.reducePow, Nat.reducePow, Int.reduceLE, Int.reduceLT, Int.reduceNeg, Int.reduceEq, Int.reduceNe, Int.reduceAdd, Int.reduceSub, Int.reduceMul, and_self, sx_push, tf, List.length_cons, List.length_nil, Option.some.injEq, exists_eq_left', Nat.reduceAdd, Nat.reduceLeDiff, true_and, and_true, true_or, or_true, Int.zero_add, Nat.zero_le, eq_self, ne_eq, not_true_eq_false, not_false_eq_true, false_implies, true_implies, implies_true, b2i_0, b2i_1, b2i_01, up_sc, sc_at, sc_sc, ite_true, ite_false, if_true, if_false, Nat.reduceEqDiff, reduceIte]
    repeat' (first | intro _ | refine And.intro ?_ ?_)
    all_goals first | exact hK | omega
  | succ k ih =>
    intro i hi h0 hK
    have nx := ih (i + 1) (by omega) (by omega) hK
    have e : up1 (blkF (fun _ => 0) 0 (σ 150) i) i 0 = blkF (fun _ => 0) 0 (σ 150) (i + 1) := by
      have := blkF_s (g := fun _ => 0) (b := 0) (h := σ 150) (i := i) h0
      rw [Int.zero_add] at this
      exact this
    rw [s173_59]
    simp only [s173_60, s173_63, s173_66, s173_67, s173_70, s173_71, s173_72, s173_73, s173_76, Int.reduceToNat, Int.reducePow, Nat.reducePow, Int.reduceLE, Int.reduceLT, Int.reduceNeg, Int.reduceEq, Int.reduceNe, Int.reduceAdd, Int.reduceSub, Int.reduceMul, and_self, sx_push, tf, List.length_cons, List.length_nil, Option.some.injEq, exists_eq_left', Nat.reduceAdd, Nat.reduceLeDiff, true_and, and_true, true_or, or_true, Int.zero_add, Nat.zero_le, eq_self, ne_eq, not_true_eq_false, not_false_eq_true, false_implies, true_implies, implies_true, b2i_0, b2i_1, b2i_01, up_sc, sc_at, sc_sc, ite_true, ite_false, if_true, if_false, Nat.reduceEqDiff, reduceIte, e]
    repeat' (first | intro _ | refine And.intro ?_ ?_)
    all_goals first | omega | exact nx
theorem x173n {v p : Int} {f : Int → Int} (p0 : 0 ≤ p) (p1 : p < 40) (h158 : ∀ i, 0 ≤ i → i < 6 → σ 158 (6 * p + i) = F (240 + 6 * p + i)) : ∀ (k : Nat) (i : Int), i + k = 6 → 0 ≤ i → Rn 173 141 [some (vR 149), some (vI v), some (vI p), some (vI 6)] [] (T0 n) (sc σ 150 (blkF (fun i => F (240 + 6 * p + i)) (240 + 6 * p) f 6)) K → Rn 173 103 [some (vR 149), some (vI v), some (vI p), some (vI i)] [] (T0 n) (sc σ 150 (blkF (fun i => F (240 + 6 * p + i)) (240 + 6 * p) f i)) K := by
  intro k
  induction k with
  | zero =>
    intro i hi h0 hK
    obtain rfl : i = 6 := by omega
    rw [s173_103]
    simp only [s173_104, s173_106, Int.reduceToNat, Int.reducePow, Nat.reducePow, Int.reduceLE, Int.reduceLT, Int.reduceNeg, Int.reduceEq, Int.reduceNe, Int.reduceAdd, Int.reduceSub, Int.reduceMul, and_self, sx_push, tf, List.length_cons, List.length_nil, Option.some.injEq, exists_eq_left', Nat.reduceAdd, Nat.reduceLeDiff, true_and, and_true, true_or, or_true, Int.zero_add, Nat.zero_le, eq_self, ne_eq, not_true_eq_false, not_false_eq_true, false_implies, true_implies, implies_true, b2i_0, b2i_1, b2i_01, up_sc, sc_at, sc_sc, ite_true, ite_false, if_true, if_false, Nat.reduceEqDiff, reduceIte]
    repeat' (first | intro _ | refine And.intro ?_ ?_)
    all_goals first | exact hK | omega
  | succ k ih =>
    intro i hi h0 hK
    have nx := ih (i + 1) (by omega) (by omega) hK
    have e : up1 (blkF (fun i => F (240 + 6 * p + i)) (240 + 6 * p) f i) (240 + 6 * p + i) (F (240 + 6 * p + i)) = blkF (fun i => F (240 + 6 * p + i)) (240 + 6 * p) f (i + 1) := blkF_s (g := fun i => F (240 + 6 * p + i)) (b := 240 + 6 * p) (h := f) (i := i) h0
    have g := h158 i h0 (by omega)
    rw [s173_103]
    simp only [s173_104, s173_106, s173_109, s173_110, s173_113, s173_116, s173_118, s173_119, s173_120, s173_121, s173_122, s173_123, s173_124, s173_127, s173_129, s173_130, s173_131, s173_132, s173_133, s173_134, s173_135, s173_138, Int.reduceToNat, Int.reducePow, Nat.reducePow, Int.reduceLE, Int.reduceLT, Int.reduceNeg, Int.reduceEq, Int.reduceNe, Int.reduceAdd, Int.reduceSub, Int.reduceMul, and_self, sx_push, tf, List.length_cons, List.length_nil, Option.some.injEq, exists_eq_left', Nat.reduceAdd, Nat.reduceLeDiff, true_and, and_true, true_or, or_true, Int.zero_add, Nat.zero_le, eq_self, ne_eq, not_true_eq_false, not_false_eq_true, false_implies, true_implies, implies_true, b2i_0, b2i_1, b2i_01, up_sc, sc_at, sc_sc, ite_true, ite_false, if_true, if_false, Nat.reduceEqDiff, reduceIte, g, e]
    repeat' (first | intro _ | refine And.intro ?_ ?_)
    all_goals first | omega | exact nx
theorem x173l {v C : Int} (hl : ltr F) (h8 : ∀ q, 0 ≤ q → q < C → in8 (F (40 + q)) ∧ in8 (F (80 + q)) ∧ in8 (F (120 + q))) : ∀ (k : Nat) (p : Int) (f : Int → Int) (σ : sxS) (w : Option sxV), p + k = C → 0 ≤ p → rSt σ C F → σ 150 = f → rowOk f → (∀ q, p ≤ q → q < 40 → f q = 0) → (∀ w, Rn 173 180 [some (vR 149), some (vI v), some (vI C), w] [] (T0 n) (sc σ 150 (sgF F k p f)) K) → Rn 173 93 [some (vR 149), some (vI v), some (vI p), w] [] (T0 n) σ K := by
  intro k
  induction k with
  | zero =>
    intro p f σ w hp p0 hS h150 hO hz hK
    obtain rfl : p = C := by omega
    have nx := hK w
    have st : sc σ 150 (sgF F 0 p f) = σ := by show sc σ 150 f = σ; rw [← h150, sc_id]
    rw [st] at nx
    have s1 := hS.1
    rw [s173_93]
    simp only [s173_94, s173_95, s173_98, Int.reduceToNat, Int.reducePow, Nat.reducePow, Int.reduceLE, Int.reduceLT, Int.reduceNeg, Int.reduceEq, Int.reduceNe, Int.reduceAdd, Int.reduceSub, Int.reduceMul, and_self, sx_push, tf, List.length_cons, List.length_nil, Option.some.injEq, exists_eq_left', Nat.reduceAdd, Nat.reduceLeDiff, true_and, and_true, true_or, or_true, Int.zero_add, Nat.zero_le, eq_self, ne_eq, not_true_eq_false, not_false_eq_true, false_implies, true_implies, implies_true, b2i_0, b2i_1, b2i_01, up_sc, sc_at, sc_sc, ite_true, ite_false, if_true, if_false, Nat.reduceEqDiff, reduceIte, s1]
    repeat' (first | intro _ | refine And.intro ?_ ?_)
    all_goals first | omega | exact nx
  | succ k ih =>
    intro p f σ w hp p0 hS h150 hO hz hK
    have hS' := hS
    obtain ⟨s1, s2, s3, s4, s5⟩ := hS'
    obtain ⟨e0, e1, e2⟩ := s4 p p0 (by omega)
    obtain ⟨ix, iy, iz⟩ := h8 p p0 (by omega)
    have fp := hz p (by omega) (by omega)
    have main : Rn 173 103 [some (vR 149), some (vI v), some (vI p), some (vI 0)] [] (T0 n) (sc σ 150 (blkF (fun i => F (240 + 6 * p + i)) (240 + 6 * p) f 0)) K := by
      refine x173n p0 (by omega) (fun i i0 i1 => by rw [s3 (6 * p + i) (by omega) (by omega), Int.add_assoc]) 6 0 (by omega) (by omega) ?_
      have ag : ag2 f (blkF (fun i => F (240 + 6 * p + i)) (240 + 6 * p) f 6) := fun j hj => by unfold blkF; rw [if_neg (by omega)]
      have w191 := fun K => x191 (n := n) (K := K) (σ := sc σ 150 (blkF (fun i => F (240 + 6 * p + i)) (240 + 6 * p) f 6)) (p := p) (x := F (40 + p)) (y := F (80 + p)) (z := F (120 + p)) (by rw [sc_at, if_pos rfl]; exact wfc_c2 ag hO.1.2.1) ix iy iz p0 (by omega)
      simp only [sc_at, reduceIte, sc_sc] at w191
      have hS2 : rSt (sc σ 150 (stR F p f)) C F := by
        unfold rSt
        rw [sc_at, if_neg (by decide), sc_at, if_neg (by decide), sc_at, if_neg (by decide)]
        exact hS
      have nx := ih (p + 1) (stR F p f) (sc σ 150 (stR F p f)) (some (vI 6)) (by omega) (by omega) hS2 (by rw [sc_at, if_pos rfl]) (stR_ok hO hl p0 (by omega) fp ix iy iz) (fun q q0 q1 => by rw [stR_o p0 (by omega) (by omega) (by omega) (by omega) (by omega) (by omega) (by omega) (by omega)]; exact hz q (by omega) q1) (by
        intro w'
        rw [sc_sc]
        exact hK w')
      have nx' : Rn 173 93 [some (vR 149), some (vI v), some (vI (p + 1)), some (vI 6)] [] (T0 n) (sc σ 150 (comesF (blkF (fun i => F (240 + 6 * p + i)) (240 + 6 * p) f 6) p (F (40 + p)) (F (80 + p)) (F (120 + p)))) K := nx
      simp only [s173_141, s173_142, s173_143, s173_144, s173_147, s173_148, s173_149, s173_150, s173_151, s173_152, s173_155, s173_156, s173_157, s173_158, s173_159, s173_160, s173_161, s173_162, s173_165, s173_166, s173_167, s173_168, s173_169, s173_170, s173_171, s173_174, s173_177, Int.reduceToNat, Int.reducePow, Nat.reducePow, Int.reduceLE, Int.reduceLT, Int.reduceNeg, Int.reduceEq, Int.reduceNe, Int.reduceAdd, Int.reduceSub, Int.reduceMul, and_self, sx_push, tf, List.length_cons, List.length_nil, Option.some.injEq, exists_eq_left', Nat.reduceAdd, Nat.reduceLeDiff, true_and, and_true, true_or, or_true, Int.zero_add, Nat.zero_le, eq_self, ne_eq, not_true_eq_false, not_false_eq_true, false_implies, true_implies, implies_true, b2i_0, b2i_1, b2i_01, up_sc, sc_at, sc_sc, ite_true, ite_false, if_true, if_false, Nat.reduceEqDiff, reduceIte, e0, e1, e2, w191]
      repeat' (first | intro _ | refine And.intro ?_ ?_)
      all_goals first | omega | exact nx'
    rw [blkF_0, ← h150, sc_id] at main
    rw [s173_93]
    simp only [s173_94, s173_95, s173_98, s173_101, s173_102, Int.reduceToNat, Int.reducePow, Nat.reducePow, Int.reduceLE, Int.reduceLT, Int.reduceNeg, Int.reduceEq, Int.reduceNe, Int.reduceAdd, Int.reduceSub, Int.reduceMul, and_self, sx_push, tf, List.length_cons, List.length_nil, Option.some.injEq, exists_eq_left', Nat.reduceAdd, Nat.reduceLeDiff, true_and, and_true, true_or, or_true, Int.zero_add, Nat.zero_le, eq_self, ne_eq, not_true_eq_false, not_false_eq_true, false_implies, true_implies, implies_true, b2i_0, b2i_1, b2i_01, up_sc, sc_at, sc_sc, ite_true, ite_false, if_true, if_false, Nat.reduceEqDiff, reduceIte, s1]
    repeat' (first | intro _ | refine And.intro ?_ ?_)
    all_goals first | omega | exact main
theorem psG_in {t : Int → Int} {L : Int} (hL : L ≤ 1600) {c' : Int} {F' : Int → Int} : ∀ (m : Nat) (c a : Int) (F : Int → Int), 0 ≤ a → a ≤ L → 0 ≤ c → psG t L m c F a c' F' → ltr F → (∀ q, 0 ≤ q → q < c → in8 (F (40 + q)) ∧ in8 (F (80 + q)) ∧ in8 (F (120 + q))) → ∀ q, 0 ≤ q → q < c' → in8 (F' (40 + q)) ∧ in8 (F' (80 + q)) ∧ in8 (F' (120 + q)) := by
  intro m
  induction m with
  | zero =>
    intro c a F a0 a1 c0 h hl h8
    obtain ⟨_, rfl, rfl⟩ := h
    exact h8
  | succ m ih =>
    intro c a F a0 a1 c0 h hl h8
    obtain ⟨z, F1, e, g1, g2⟩ := h
    have k1 := (skF_in (t := t) (L := L) 1600 a a0 a1 (by omega)).1
    have g := ptG_ltr hL (by omega) (by omega) g1 hl
    refine ih (c + 1) e F1 g.2.1 g.2.2 (by omega) g2 g.1 (fun q q0 q1 => ?_)
    obtain ⟨c1, y5, F2, e1, p1, y6, e2, p2, y9, he⟩ := g1
    obtain ⟨x, y, w, b1, b2, n1, n2, n3, n4, n5⟩ := p2
    rw [n5]
    by_cases zq : q = c
    · rw [zq, plSt_x, plSt_y, plSt_z]; exact ⟨numG_v n1, numG_v n2, numG_v n3⟩
    · rw [plSt_o (by omega), plSt_o (by omega), plSt_o (by omega), p1.2.2.2.2.2, nmSt_o (by omega), nmSt_o (by omega), nmSt_o (by omega)]
      exact h8 q q0 (by omega)
theorem mrG_e {t : Int → Int} {L ms e : Int} (h : mrG t L ms e) : 0 ≤ e ∧ e ≤ L := by
  obtain ⟨_, _, _, _, y9, rfl⟩ := h
  constructor
  · apply Classical.byContradiction
    intro w
    rw [show bt t L _ = -1 from if_neg (by omega)] at y9
    omega
  · apply Classical.byContradiction
    intro w
    rw [bt_out (by omega)] at y9
    omega
theorem ltr_z : ltr (fun _ => 0) := fun p k _ _ _ _ => by show (0 : Int) ≤ 0 ∧ (0 : Int) ≤ 26; omega
/-- the reference -/
def refS (σ : sxS) (L : Int) : sxS := sc σ 149 (up1 (up1 (up1 (up1 (up1 (σ 149) 8 0) 12 L) 13 0) 15 0) 16 (-1))
theorem refS_ok {t : Int → Int} {L : Int} (hL : 0 ≤ L ∧ L ≤ 1600) (ht : ∀ j, 0 ≤ j → j < L → σ 154 j = t j) (hw : ∀ k, 0 ≤ k → k < 30 → σ 156 k = ownW.getD k.toNat 0) : rOk (refS σ L) t L ∧ refS σ L 149 13 = 0 ∧ refS σ L 149 15 = 0 ∧ refS σ L 149 16 = -1 := by
  unfold refS rOk
  refine ⟨⟨?_, hL, ?_, ?_⟩, ?_, ?_, ?_⟩
  · rw [sc_at, if_pos rfl, up1_n (by decide), up1_n (by decide), up1_n (by decide), up1_s]
  · rw [sc_at, if_neg (by decide)]; exact ht
  · rw [sc_at, if_neg (by decide)]; exact hw
  · rw [sc_at, if_pos rfl, up1_n (by decide), up1_n (by decide), up1_s]
  · rw [sc_at, if_pos rfl, up1_n (by decide), up1_s]
  · rw [sc_at, if_pos rfl, up1_s]
theorem x173b {t : Int → Int} {L : Int} (hL : σ 149 8 = L) (hl : 0 ≤ L ∧ L ≤ 1600) (ht : ∀ j, 0 ≤ j → j < L → σ 154 j = t j) (hw : ∀ k, 0 ≤ k → k < 30 → σ 156 k = ownW.getD k.toNat 0) (hK : Rn 175 0 [some (vR 149), none] [] (T0 n) (refS σ L) (fun r T' σ' => Rn 173 27 [some (vR 149), none, none, none] (sx_push r []) T' σ' K)) : Rn 173 0 [some (vR 149), none, none, none] [] (T0 n) σ K := by
  unfold refS at hK
  simp only [s173_0, s173_1, s173_2, s173_5, s173_8, s173_9, s173_10, s173_13, s173_14, s173_15, s173_18, s173_19, s173_20, s173_23, s173_24, Int.reduceToNat, Int.reducePow, Nat.reducePow, Int.reduceLE, Int.reduceLT, Int.reduceNeg, Int.reduceEq, Int.reduceNe, Int.reduceAdd, Int.reduceSub, Int.reduceMul, and_self, sx_push, tf, List.length_cons, List.length_nil, Option.some.injEq, exists_eq_left', Nat.reduceAdd, Nat.reduceLeDiff, true_and, and_true, true_or, or_true, Int.zero_add, Nat.zero_le, eq_self, ne_eq, not_true_eq_false, not_false_eq_true, false_implies, true_implies, implies_true, b2i_0, b2i_1, b2i_01, up_sc, sc_at, sc_sc, ite_true, ite_false, if_true, if_false, Nat.reduceEqDiff, reduceIte, x174, hL]
  repeat' (first | intro _ | refine And.intro ?_ ?_)
  all_goals first | omega | exact hK
theorem refS_j {L : Int} {j : Int} (a : j ≠ 8) (b : j ≠ 12) (d : j ≠ 13) (e : j ≠ 15) (f : j ≠ 16) : refS σ L 149 j = σ 149 j := by
  unfold refS
  rw [sc_at, if_pos rfl, up1_n f, up1_n e, up1_n d, up1_n b, up1_n a]
theorem refS_q {L : Int} {q : Nat} (h : q ≠ 149) : refS σ L q = σ q := by
  unfold refS
  rw [sc_at, if_neg h]
theorem x173f {t : Int → Int} {L : Int} (hL : σ 149 8 = L) (hl : 0 ≤ L ∧ L ≤ 1600) (ht : ∀ j, 0 ≤ j → j < L → σ 154 j = t j) (t8 : ∀ j, 0 ≤ j → j < L → in8 (t j)) (hw : ∀ k, 0 ≤ k → k < 30 → σ 156 k = ownW.getD k.toNat 0) (hr : inI (σ 155 1 + 1)) {k p : Int} (hB : (k = 1 ∧ mrB t L p) ∨ ∃ ms e m, mrG t L ms e ∧ psB t L m 0 (fun _ => 0) e k p) (hK : ∀ σ', (∀ q, q ≠ 149 → q ≠ 155 → q ≠ 157 → q ≠ 158 → σ' q = σ q) → σ' 155 = up1 (σ 155) 1 (σ 155 1 + 1) → (∀ j, j ≠ 8 → j ≠ 10 → j ≠ 11 → j ≠ 12 → j ≠ 13 → j ≠ 14 → j ≠ 15 → j ≠ 16 → j ≠ 18 → j ≠ 19 → σ' 149 j = σ 149 j) → σ' 149 8 = 0 → σ' 149 10 = k → σ' 149 11 = p → K (some (vI (-1))) (T0 n) σ') : Rn 173 0 [some (vR 149), none, none, none] [] (T0 n) σ K := by
  obtain ⟨o1, o2, o3, o4⟩ := refS_ok (σ := σ) hl ht hw
  refine x173b hL hl ht hw ?_
  refine x175F t8 o1 o2 o3 hB (fun σ1 v f1 k0 f2 f3 => ?_)
  have g8 : σ1 149 8 = 0 := by rw [f1.2 8 (by decide) (by decide) (by decide) (by decide) (by decide) (by decide)]; unfold refS; rw [sc_at, if_pos rfl, up1_n (by decide), up1_n (by decide), up1_n (by decide), up1_n (by decide), up1_s]
  have g155 : σ1 155 = σ 155 := by rw [f1.1 155 (by decide) (by decide) (by decide), refS_q (by decide)]
  have nx := hK (sc (sc σ1 149 (up1 (up1 (σ1 149) 10 k) 11 p)) 155 (up1 (σ1 155) 1 (σ1 155 1 + 1))) (fun q a b d e => by rw [sc_at, if_neg b, sc_at, if_neg a, f1.1 q a d e, refS_q a]) (by rw [sc_at, if_pos rfl, g155]) (fun j a1 a2 a3 a4 a5 a6 a7 a8 a9 a10 => by rw [sc_at, if_neg (by decide), sc_at, if_pos rfl, up1_n a3, up1_n a2, f1.2 j a5 a6 a7 a8 a9 a10, refS_j a1 a4 a5 a7 a8]) (by rw [sc_at, if_neg (by decide), sc_at, if_pos rfl, up1_n (by decide), up1_n (by decide), g8]) (by rw [sc_at, if_neg (by decide), sc_at, if_pos rfl, up1_n (by decide), up1_s]) (by rw [sc_at, if_neg (by decide), sc_at, if_pos rfl, up1_s])
  have w169 := fun K => x169 (n := n) (K := K) (σ := sc σ1 149 (up1 (up1 (σ1 149) 10 k) 11 p)) (w := 1) (by omega) (by omega) (by rw [sc_at, if_neg (by decide), g155]; exact hr)
  have s155 : sc σ1 149 (up1 (up1 (σ1 149) 10 k) 11 p) 155 = σ1 155 := by rw [sc_at, if_neg (by decide)]
  rw [s155] at w169
  have u16 : up1 (σ1 149) 10 k 16 = p := by rw [up1_n (by decide), f3]
  have u15 : up1 (up1 (σ1 149) 10 k) 11 p 15 = k := by rw [up1_n (by decide), up1_n (by decide), f2]
  simp only [s173_27, s173_28, s173_29, s173_30, s173_33, s173_36, s173_37, s173_38, s173_41, s173_44, s173_45, s173_48, s173_51, s173_52, s173_53, s173_56, Int.reduceToNat, Int.reducePow, Nat.reducePow, Int.reduceLE, Int.reduceLT, Int.reduceNeg, Int.reduceEq, Int.reduceNe, Int.reduceAdd, Int.reduceSub, Int.reduceMul, and_self, sx_push, tf, List.length_cons, List.length_nil, Option.some.injEq, exists_eq_left', Nat.reduceAdd, Nat.reduceLeDiff, true_and, and_true, true_or, or_true, Int.zero_add, Nat.zero_le, eq_self, ne_eq, not_true_eq_false, not_false_eq_true, false_implies, true_implies, implies_true, b2i_0, b2i_1, b2i_01, up_sc, sc_at, sc_sc, ite_true, ite_false, if_true, if_false, Nat.reduceEqDiff, reduceIte, f2, u16, u15, w169]
  repeat' (first | intro _ | refine And.intro ?_ ?_)
  all_goals first | omega | exact nx
theorem x173g {t : Int → Int} {L : Int} (hL : σ 149 8 = L) (hl : 0 ≤ L ∧ L ≤ 1600) (ht : ∀ j, 0 ≤ j → j < L → σ 154 j = t j) (t8 : ∀ j, 0 ≤ j → j < L → in8 (t j)) (hw : ∀ k, 0 ≤ k → k < 30 → σ 156 k = ownW.getD k.toNat 0) {ms e C : Int} {m : Nat} (g1 : mrG t L ms e) (g2 : psG t L m 0 (fun _ => 0) e C F) (hK : ∀ σ', (∀ q, q ≠ 149 → q ≠ 150 → q ≠ 157 → q ≠ 158 → σ' q = σ q) → σ' 150 = sgF F C.toNat 0 (ro0 (σ 150) ms) → (∀ j, j ≠ 4 → j ≠ 6 → j ≠ 8 → j ≠ 10 → j ≠ 11 → j ≠ 12 → j ≠ 13 → j ≠ 14 → j ≠ 15 → j ≠ 16 → j ≠ 18 → j ≠ 19 → j ≠ 26 → j ≠ 30 → j ≠ 36 → σ' 149 j = σ 149 j) → σ' 149 8 = 0 → σ' 149 10 = 0 → σ' 149 11 = -1 → σ' 149 6 = 1 → σ' 149 4 = 0 → σ' 149 36 = 0 → σ' 149 26 = 0 → σ' 149 30 = 0 → K (some (vI (C + 1))) (T0 n) σ') : Rn 173 0 [some (vR 149), none, none, none] [] (T0 n) σ K := by
  obtain ⟨o1, o2, o3, o4⟩ := refS_ok (σ := σ) hl ht hw
  have me := mrG_e g1
  have hms := g1.2.2.1
  refine x173b hL hl ht hw ?_
  refine x175G t8 o1 o2 o3 g1 g2 (fun σ1 f1 f2 f3 f4 f5 => ?_)
  rw [o4] at f3
  have hlF := psG_ltr hl.2 m 0 e _ me.1 me.2 g2 ltr_z
  have h8 := psG_in hl.2 m 0 e _ me.1 me.2 (by omega) g2 ltr_z (fun q q0 q1 => by omega)
  have c40 := f5.2.1
  have g8 : σ1 149 8 = 0 := by rw [f1.2 8 (by decide) (by decide) (by decide) (by decide) (by decide) (by decide)]; unfold refS; rw [sc_at, if_pos rfl, up1_n (by decide), up1_n (by decide), up1_n (by decide), up1_n (by decide), up1_s]
  have g150 : σ1 150 = σ 150 := by rw [f1.1 150 (by decide) (by decide) (by decide), refS_q (by decide)]
  -- behind the fault's two fields
  have b1 : ∀ q, q ≠ 149 → sc σ1 149 (up1 (up1 (σ1 149) 10 0) 11 (-1)) q = σ1 q := fun q hq => by rw [sc_at, if_neg hq]
  have b2 : ∀ j, j ≠ 10 → j ≠ 11 → sc σ1 149 (up1 (up1 (σ1 149) 10 0) 11 (-1)) 149 j = σ1 149 j := fun j a b => by rw [sc_at, if_pos rfl, up1_n b, up1_n a]
  have b10 : sc σ1 149 (up1 (up1 (σ1 149) 10 0) 11 (-1)) 149 10 = 0 := by rw [sc_at, if_pos rfl, up1_n (by decide), up1_s]
  have b11 : sc σ1 149 (up1 (up1 (σ1 149) 10 0) 11 (-1)) 149 11 = -1 := by rw [sc_at, if_pos rfl, up1_s]
  have u16 : up1 (σ1 149) 10 0 16 = -1 := by rw [up1_n (by decide), f3]
  have u15 : up1 (up1 (σ1 149) 10 0) 11 (-1) 15 = 0 := by rw [up1_n (by decide), up1_n (by decide), f2]
  have main : Rn 173 59 [some (vR 149), some (vI (C + 1)), some (vI 0), none] [] (T0 n) (sc σ1 149 (up1 (up1 (σ1 149) 10 0) 11 (-1))) K := by
    generalize sc σ1 149 (up1 (up1 (σ1 149) 10 0) 11 (-1)) = σ2 at *
    have z0 := x173z (n := n) (K := K) (σ := σ2) (v := C + 1) (w := none) 481 0 (by omega) (by omega)
    rw [blkF_0, sc_id] at z0
    refine z0 ?_
    have e150 : σ2 150 = σ 150 := by rw [b1 150 (by decide), g150]
    rw [e150]
    have q19 : σ2 149 19 = ms := by rw [b2 19 (by decide) (by decide), f4]
    have hS3 : rSt (sc σ2 150 (ro0 (σ 150) ms)) C F := by
      unfold rSt
      rw [sc_at, if_neg (by decide), sc_at, if_neg (by decide), sc_at, if_neg (by decide), b2 18 (by decide) (by decide), b1 157 (by decide), b1 158 (by decide)]
      exact f5
    have lp : Rn 173 93 [some (vR 149), some (vI (C + 1)), some (vI 0), none] [] (T0 n) (sc σ2 150 (ro0 (σ 150) ms)) K := by
      refine x173l hlF h8 C.toNat 0 (ro0 (σ 150) ms) _ none (by omega) (by omega) hS3 (by rw [sc_at, if_pos rfl]) (ro0_ok hms) (fun q q0 q1 => ro0_0 q0 (by omega)) (fun w => ?_)
      rw [sc_sc]
      have nx := hK (sc (sc σ2 150 (sgF F C.toNat 0 (ro0 (σ 150) ms))) 149 (up1 (up1 (up1 (up1 (up1 (σ2 149) 6 1) 4 0) 36 0) 26 0) 30 0)) (fun q a b d e => by rw [sc_at, if_neg a, sc_at, if_neg b, b1 q a, f1.1 q a d e, refS_q a]) (by rw [sc_at, if_neg (by decide), sc_at, if_pos rfl]) (fun j a1 a2 a3 a4 a5 a6 a7 a8 a9 a10 a11 a12 a13 a14 a15 => by rw [sc_at, if_pos rfl, up1_n a14, up1_n a13, up1_n a15, up1_n a1, up1_n a2, b2 j a4 a5, f1.2 j a7 a8 a9 a10 a11 a12, refS_j a3 a6 a7 a9 a10]) (by rw [sc_at, if_pos rfl, up1_n (by decide), up1_n (by decide), up1_n (by decide), up1_n (by decide), up1_n (by decide), b2 8 (by decide) (by decide), g8]) (by rw [sc_at, if_pos rfl, up1_n (by decide), up1_n (by decide), up1_n (by decide), up1_n (by decide), up1_n (by decide), b10]) (by rw [sc_at, if_pos rfl, up1_n (by decide), up1_n (by decide), up1_n (by decide), up1_n (by decide), up1_n (by decide), b11]) (by rw [sc_at, if_pos rfl, up1_n (by decide), up1_n (by decide), up1_n (by decide), up1_n (by decide), up1_s]) (by rw [sc_at, if_pos rfl, up1_n (by decide), up1_n (by decide), up1_n (by decide), up1_s]) (by rw [sc_at, if_pos rfl, up1_n (by decide), up1_n (by decide), up1_s]) (by rw [sc_at, if_pos rfl, up1_n (by decide), up1_s]) (by rw [sc_at, if_pos rfl, up1_s])
      simp only [s173_180, s173_181, s173_182, s173_185, s173_186, s173_187, s173_190, s173_191, s173_192, s173_195, s173_196, s173_197, s173_200, s173_201, s173_202, s173_205, s173_206, Int.reduceToNat, Int.reducePow, Nat.reducePow, Int.reduceLE, Int.reduceLT, Int.reduceNeg, Int.reduceEq, Int.reduceNe, Int.reduceAdd, Int.reduceSub, Int.reduceMul, and_self, sx_push, tf, List.length_cons, List.length_nil, Option.some.injEq, exists_eq_left', Nat.reduceAdd, Nat.reduceLeDiff, true_and, and_true, true_or, or_true, Int.zero_add, Nat.zero_le, eq_self, ne_eq, not_true_eq_false, not_false_eq_true, false_implies, true_implies, implies_true, b2i_0, b2i_1, b2i_01, up_sc, sc_at, sc_sc, ite_true, ite_false, if_true, if_false, Nat.reduceEqDiff, reduceIte]
      repeat' (first | intro _ | refine And.intro ?_ ?_)
      all_goals first | omega | exact nx
    unfold ro0 at lp
    simp only [s173_79, s173_80, s173_83, s173_86, s173_87, s173_90, s173_91, s173_92, Int.reduceToNat, Int.reducePow, Nat.reducePow, Int.reduceLE, Int.reduceLT, Int.reduceNeg, Int.reduceEq, Int.reduceNe, Int.reduceAdd, Int.reduceSub, Int.reduceMul, and_self, sx_push, tf, List.length_cons, List.length_nil, Option.some.injEq, exists_eq_left', Nat.reduceAdd, Nat.reduceLeDiff, true_and, and_true, true_or, or_true, Int.zero_add, Nat.zero_le, eq_self, ne_eq, not_true_eq_false, not_false_eq_true, false_implies, true_implies, implies_true, b2i_0, b2i_1, b2i_01, up_sc, sc_at, sc_sc, ite_true, ite_false, if_true, if_false, Nat.reduceEqDiff, reduceIte, q19]
    repeat' (first | intro _ | refine And.intro ?_ ?_)
    all_goals first | omega | exact lp
  simp only [s173_27, s173_28, s173_29, s173_30, s173_33, s173_36, s173_37, s173_38, s173_41, s173_44, s173_45, s173_48, s173_57, s173_58, Int.reduceToNat, Int.reducePow, Nat.reducePow, Int.reduceLE, Int.reduceLT, Int.reduceNeg, Int.reduceEq, Int.reduceNe, Int.reduceAdd, Int.reduceSub, Int.reduceMul, and_self, sx_push, tf, List.length_cons, List.length_nil, Option.some.injEq, exists_eq_left', Nat.reduceAdd, Nat.reduceLeDiff, true_and, and_true, true_or, or_true, Int.zero_add, Nat.zero_le, eq_self, ne_eq, not_true_eq_false, not_false_eq_true, false_implies, true_implies, implies_true, b2i_0, b2i_1, b2i_01, up_sc, sc_at, sc_sc, ite_true, ite_false, if_true, if_false, Nat.reduceEqDiff, reduceIte, f2, u16, u15]
  repeat' (first | intro _ | refine And.intro ?_ ?_)
  all_goals first | omega | exact main
theorem cl2 (hc : c < 100000) : call2 n c 15 173 [some (vR 1), none, none] [some (vR 149), none, none, none] := fun σ hr => by
  have h' := hr
  obtain ⟨hP, hO, hM, hH, hT, hR, hS, hF, hQ, hV, hI, hG, hW⟩ := h'
  obtain ⟨t1, t2, t3⟩ := hT
  have rr := Rel_r hr hc (w := 1) (by omega) (by omega)
  have tp : tpOk σ (σ 154) (σ 149 8) := ⟨t1, t2, fun j j0 j1 => t3 j j0 j1⟩
  refine x15g tp (fun σ1 ms e m C F g1 g2 c40 hms f1 f2 f3 f4 f5 f6 f7 f8 f9 f10 => ?_) rr.1 (fun σ1 k p g1 f1 f2 f3 f4 f5 => ?_)
  · refine ⟨rfl, _, rfl, ?_⟩
    have q : ∀ k, 149 ≤ k → σ1 k = σ k := fun k hk => f1 k (by omega) (by omega) (by omega) (by omega) (by omega) (by omega) (by omega) (by omega)
    refine x173g (t := σ 154) (L := σ 149 8) (by rw [q 149 (by decide)]) t2 (by rw [q 154 (by decide)]; exact fun j _ _ => rfl) (fun j j0 j1 => (t3 j j0 j1).2) (by rw [q 156 (by decide)]; exact hW) g1 g2 (fun σ2 p1 p2 p3 p8 p10 p11 p6 p4 p36 p26 p30 => ?_)
    rw [q 150 (by decide)] at p2
    have k7 : ∀ k, k < 149 → σ2 k = σ1 k := fun k hk => p1 k (by omega) (by omega) (by omega) (by omega)
    have kk : ∀ k, k ≠ 2 → k ≠ 4 → k ≠ 5 → k ≠ 6 → (k < 7 ∨ 11 < k) → k ≠ 17 → k ≠ 119 → k ≠ 141 → k ≠ 149 → k ≠ 150 → k ≠ 157 → k ≠ 158 → σ2 k = σ k := fun k a1 a2 a3 a4 a5 a6 a7 a8 a9 a10 a11 a12 => by rw [p1 k a9 a10 a11 a12, f1 k a1 a2 a3 a4 a5 a6 a7 a8]
    have jj : ∀ j, j ≠ 4 → j ≠ 6 → j ≠ 8 → j ≠ 10 → j ≠ 11 → j ≠ 12 → j ≠ 13 → j ≠ 14 → j ≠ 15 → j ≠ 16 → j ≠ 18 → j ≠ 19 → j ≠ 26 → j ≠ 30 → j ≠ 36 → σ2 149 j = σ 149 j := fun j a1 a2 a3 a4 a5 a6 a7 a8 a9 a10 a11 a12 a13 a14 a15 => by rw [p3 j a1 a2 a3 a4 a5 a6 a7 a8 a9 a10 a11 a12 a13 a14 a15, q 149 (by decide)]
    refine ⟨rfl, by rw [Int.add_comm], ⟨?_, ?_, ?_, ?_, ?_, ?_, ?_, ?_, ?_, ?_, ?_, ?_, ?_⟩, kk 0 (by decide) (by decide) (by decide) (by decide) (by decide) (by decide) (by decide) (by decide) (by decide) (by decide) (by decide) (by decide)⟩
    · rw [p2]; exact PT_cells (fun k k1 k2 => k7 k (by omega)) f6
    · rw [p2]; exact f7
    · rw [p2, k7 7 (by decide)]; exact Or.inl ⟨p6, f8⟩
    · refine ⟨?_, by rw [p4]; omega, ?_, fun w => ?_, fun i i0 i1 => ?_⟩
      · rw [p4, k7 17 (by decide), f3, up1_s]
      · rw [k7 17 (by decide), f3, up1_n (by decide)]; exact hH.2.2.1
      · rw [p4] at w; omega
      · rw [p4] at i1; omega
    · refine ⟨?_, by rw [p8]; omega, fun j j0 j1 => ?_⟩
      · rw [p8, k7 2 (by decide), f2, up1_s]
      · rw [p8] at j1; omega
    · rw [kk 148 (by decide) (by decide) (by decide) (by decide) (by decide) (by decide) (by decide) (by decide) (by decide) (by decide) (by decide) (by decide), kk 155 (by decide) (by decide) (by decide) (by decide) (by decide) (by decide) (by decide) (by decide) (by decide) (by decide) (by decide) (by decide)]
      exact relR_w hR (by omega)
    · unfold relS
      rw [kk 1 (by decide) (by decide) (by decide) (by decide) (by decide) (by decide) (by decide) (by decide) (by decide) (by decide) (by decide) (by decide), jj 5 (by decide) (by decide) (by decide) (by decide) (by decide) (by decide) (by decide) (by decide) (by decide) (by decide) (by decide) (by decide) (by decide) (by decide) (by decide)]
      exact hS
    · unfold relF
      rw [k7 4 (by decide), p10, p11]; exact ⟨f9, f10⟩
    · have e119 : σ2 119 = up1 (up1 (up1 (σ 119) 10 (-1)) 9 0) 8 0 := by rw [k7 119 (by decide), f4]
      refine ⟨?_, by rw [p30]; omega, Or.inl ⟨p26, ?_, p30⟩, fun k k0 k1 => ?_⟩
      · rw [p30, e119, up1_s]
      · rw [e119, up1_n (by decide), up1_n (by decide), up1_s]
      · rw [p30] at k1; omega
    · refine ⟨?_, by rw [p36]; omega, fun k k0 k1 => ?_⟩
      · rw [p36, k7 141 (by decide), f5, up1_s]
      · rw [p36] at k1; omega
    · unfold relI
      rw [kk 146 (by decide) (by decide) (by decide) (by decide) (by decide) (by decide) (by decide) (by decide) (by decide) (by decide) (by decide) (by decide), kk 147 (by decide) (by decide) (by decide) (by decide) (by decide) (by decide) (by decide) (by decide) (by decide) (by decide) (by decide) (by decide), kk 169 (by decide) (by decide) (by decide) (by decide) (by decide) (by decide) (by decide) (by decide) (by decide) (by decide) (by decide) (by decide), jj 41 (by decide) (by decide) (by decide) (by decide) (by decide) (by decide) (by decide) (by decide) (by decide) (by decide) (by decide) (by decide) (by decide) (by decide) (by decide)]
      exact hI
    · have e119 : σ2 119 = up1 (up1 (up1 (σ 119) 10 (-1)) 9 0) 8 0 := by rw [k7 119 (by decide), f4]
      rw [e119, up1_n (by decide), up1_n (by decide), up1_n (by decide), up1_n (by decide), up1_n (by decide), up1_n (by decide), kk 126 (by decide) (by decide) (by decide) (by decide) (by decide) (by decide) (by decide) (by decide) (by decide) (by decide) (by decide) (by decide)]
      exact hG
    · rw [kk 156 (by decide) (by decide) (by decide) (by decide) (by decide) (by decide) (by decide) (by decide) (by decide) (by decide) (by decide) (by decide)]
      exact hW
  · refine ⟨rfl, _, rfl, ?_⟩
    have q : ∀ k, 149 ≤ k → σ1 k = σ k := fun k hk => f1 k (by omega) (by omega) (by omega) (by omega) (by omega)
    refine x173f (t := σ 154) (L := σ 149 8) (by rw [q 149 (by decide)]) t2 (by rw [q 154 (by decide)]; exact fun j _ _ => rfl) (fun j j0 j1 => (t3 j j0 j1).2) (by rw [q 156 (by decide)]; exact hW) (by rw [q 155 (by decide)]; exact rr.2) g1 (fun σ2 p1 p2 p3 p8 p10 p11 => ?_)
    rw [q 155 (by decide)] at p2
    have kk : ∀ k, k ≠ 2 → k ≠ 4 → k ≠ 5 → k ≠ 6 → k ≠ 148 → k ≠ 149 → k ≠ 155 → k ≠ 157 → k ≠ 158 → σ2 k = σ k := fun k a1 a2 a3 a4 a5 a6 a7 a8 a9 => by rw [p1 k a6 a7 a8 a9, f1 k a1 a2 a3 a4 a5]
    have jj : ∀ j, j ≠ 8 → j ≠ 10 → j ≠ 11 → j ≠ 12 → j ≠ 13 → j ≠ 14 → j ≠ 15 → j ≠ 16 → j ≠ 18 → j ≠ 19 → σ2 149 j = σ 149 j := fun j a1 a2 a3 a4 a5 a6 a7 a8 a9 a10 => by rw [p3 j a1 a2 a3 a4 a5 a6 a7 a8 a9 a10, q 149 (by decide)]
    have j1 : ∀ j, (j < 8 ∨ 19 < j) → σ2 149 j = σ 149 j := fun j hj => jj j (by omega) (by omega) (by omega) (by omega) (by omega) (by omega) (by omega) (by omega) (by omega) (by omega)
    have k1 : ∀ k, (k < 2 ∨ 6 < k) → k ≠ 148 → k ≠ 149 → k ≠ 155 → k ≠ 157 → k ≠ 158 → σ2 k = σ k := fun k a b d e g i => kk k (by omega) (by omega) (by omega) (by omega) b d e g i
    refine ⟨rfl, rfl, ?_, k1 0 (by decide) (by decide) (by decide) (by decide) (by decide) (by decide)⟩
    refine Rel_up hr (fun k hk => ?_) (j1 4 (by decide)) (j1 6 (by decide)) ?_ ?_ ?_ ?_ ?_ ?_ ?_ ?_
    · unfold ptc at hk
      exact k1 k (by omega) (by omega) (by omega) (by omega) (by omega) (by omega)
    · refine ⟨?_, by rw [p8]; omega, fun j j0 j1 => ?_⟩
      · rw [p8, p1 2 (by decide) (by decide) (by decide) (by decide), f2, up1_s]
      · rw [p8] at j1; omega
    · intro v v0 v1
      have r := hR v v0 v1
      have r2 := hR 1 (by omega) (by omega)
      rw [p2, p1 148 (by decide) (by decide) (by decide) (by decide), f3]
      by_cases z : v = 1
      · subst z; rw [up1_s, up1_s]; omega
      · rw [up1_n z, up1_n z]; omega
    · unfold relS
      rw [k1 1 (by decide) (by decide) (by decide) (by decide) (by decide) (by decide), j1 5 (by decide)]
      exact hS
    · unfold relF
      rw [p1 4 (by decide) (by decide) (by decide) (by decide), p10, p11]; exact ⟨f4, f5⟩
    · unfold relQ
      rw [k1 119 (by decide) (by decide) (by decide) (by decide) (by decide) (by decide), k1 122 (by decide) (by decide) (by decide) (by decide) (by decide) (by decide), k1 123 (by decide) (by decide) (by decide) (by decide) (by decide) (by decide), k1 124 (by decide) (by decide) (by decide) (by decide) (by decide) (by decide), k1 125 (by decide) (by decide) (by decide) (by decide) (by decide) (by decide), k1 161 (by decide) (by decide) (by decide) (by decide) (by decide) (by decide), j1 30 (by decide), j1 26 (by decide), j1 27 (by decide), j1 28 (by decide), j1 29 (by decide)]
      exact hQ
    · unfold relV
      rw [k1 141 (by decide) (by decide) (by decide) (by decide) (by decide) (by decide), k1 142 (by decide) (by decide) (by decide) (by decide) (by decide) (by decide), k1 143 (by decide) (by decide) (by decide) (by decide) (by decide) (by decide), k1 144 (by decide) (by decide) (by decide) (by decide) (by decide) (by decide), k1 166 (by decide) (by decide) (by decide) (by decide) (by decide) (by decide), k1 167 (by decide) (by decide) (by decide) (by decide) (by decide) (by decide), k1 168 (by decide) (by decide) (by decide) (by decide) (by decide) (by decide), j1 36 (by decide)]
      exact hV
    · unfold relI
      rw [k1 146 (by decide) (by decide) (by decide) (by decide) (by decide) (by decide), k1 147 (by decide) (by decide) (by decide) (by decide) (by decide) (by decide), k1 169 (by decide) (by decide) (by decide) (by decide) (by decide) (by decide), j1 41 (by decide)]
      exact hI
    · rw [k1 119 (by decide) (by decide) (by decide) (by decide) (by decide) (by decide), k1 126 (by decide) (by decide) (by decide) (by decide) (by decide) (by decide)]
      exact ⟨⟨rfl, rfl⟩, rfl⟩
end SH
