/-! set: rows laid down, the call -/
theorem nmG_ltr {t : Int → Int} {L c a e : Int} {F F' : Int → Int} (hL : L ≤ 1600) (a0 : 0 ≤ a) (a1 : a ≤ L) (h : nmG t L c F a F' e) (hl : ltr F) : ltr F' := by
  have k1 := (skF_in (t := t) (L := L) 1600 a a0 a1 (by omega)).1
  obtain ⟨g1, g2, g3, g4, g5, g6⟩ := h
  obtain ⟨l1, l2, l3⟩ := ltF_in (t := t) (L := L) 1600 (skF t L 1600 a) (by omega) (by omega) (by omega)
  rw [← g3] at l1 l2 l3
  rw [g6]
  intro p k p0 p1 k0 k5
  by_cases z : p = c
  · rw [z, nmSt_c k0 k5]
    unfold dgT
    by_cases z2 : k < e - skF t L 1600 a
    · have := l2 (skF t L 1600 a + k) (by omega) (by omega)
      rw [bt_in (by omega) (by omega)] at this
      unfold sml at this
      rw [if_pos z2]
      show 0 ≤ t (skF t L 1600 a + k) - 96 ∧ t (skF t L 1600 a + k) - 96 ≤ 26
      omega
    · rw [if_neg z2]; omega
  · rw [nmSt_o (by omega)]; exact hl p k p0 p1 k0 k5
theorem ptG_ltr {t : Int → Int} {L c a e : Int} {F F' : Int → Int} (hL : L ≤ 1600) (a0 : 0 ≤ a) (a1 : a ≤ L) (h : ptG t L c F a F' e) (hl : ltr F) : ltr F' ∧ 0 ≤ e ∧ e ≤ L := by
  obtain ⟨c1, y5, F1, e1, g1, y6, e2, g2, y9, he⟩ := h
  have i5 := (spJ_in (j := 5) (by decide) hL a0 a1 y5).1
  rw [show ((sx_str 5).length : Int) = 5 from rfl] at i5
  have l1 := nmG_ltr hL (by omega) (by omega) g1 hl
  have i1 := (nmG_in hL (by omega) (by omega) g1).1
  have k1 := (skF_in (t := t) (L := L) 1600 e1 (by omega) (by omega) (by omega)).1
  have i6 := (spJ_in (j := 6) (by decide) hL (by omega) (by omega) y6).1
  rw [show ((sx_str 6).length : Int) = 2 from rfl] at i6
  obtain ⟨x, y, z, b1, b2, n1, n2, n3, n4, n5⟩ := g2
  have j1 := (numG_in hL (by omega) (by omega) n1).1
  have j2 := (numG_in hL (by omega) (by omega) n2).1
  have j3 := (numG_in hL (by omega) (by omega) n3).1
  have k2 := (skF_in (t := t) (L := L) 1600 e2 (by omega) (by omega) (by omega)).1
  refine ⟨?_, by omega, ?_⟩
  · rw [n5]
    intro p k p0 p1 k0 k5
    rw [plSt_o (by omega)]; exact l1 p k p0 p1 k0 k5
  · have bs : skF t L 1600 e2 < L := by
      apply Classical.byContradiction
      intro w
      rw [bt_out (by omega)] at y9
      omega
    omega
theorem psG_ltr {t : Int → Int} {L : Int} (hL : L ≤ 1600) {c' : Int} {F' : Int → Int} : ∀ (m : Nat) (c a : Int) (F : Int → Int), 0 ≤ a → a ≤ L → psG t L m c F a c' F' → ltr F → ltr F' := by
  intro m
  induction m with
  | zero =>
    intro c a F a0 a1 h hl
    obtain ⟨_, _, rfl⟩ := h
    exact hl
  | succ m ih =>
    intro c a F a0 a1 h hl
    obtain ⟨z, F1, e, g1, g2⟩ := h
    have k1 := (skF_in (t := t) (L := L) 1600 a a0 a1 (by omega)).1
    have g := ptG_ltr hL (by omega) (by omega) g1 hl
    exact ih (c + 1) e F1 g.2.1 g.2.2 g2 g.1
/-- a row with one more of the points read -/
def stR (F : Int → Int) (p : Int) (f : Int → Int) : Int → Int := comesF (blkF (fun i => F (240 + 6 * p + i)) (240 + 6 * p) f 6) p (F (40 + p)) (F (80 + p)) (F (120 + p))
def sgF (F : Int → Int) : Nat → Int → (Int → Int) → (Int → Int)
  | 0, _, f => f
  | k + 1, p, f => sgF F k (p + 1) (stR F p f)
theorem stR_o {F f : Int → Int} {p j : Int} (h0 : 0 ≤ p) (h1 : p < 40) (a : j ≠ p) (b : j ≠ 40 + p) (c : j ≠ 80 + p) (d : j ≠ 120 + p) (e : j ≠ 160 + p) (g : j ≠ 200 + p) (h : j < 240 + 6 * p ∨ 246 + 6 * p ≤ j) : stR F p f j = f j := by
  unfold stR
  rw [comesF_n a b c d e g]
  unfold blkF
  rw [if_neg (by omega)]
theorem stR_nm {F f : Int → Int} {p : Int} (h0 : 0 ≤ p) (h1 : p < 40) : nmF (stR F p f) p = nmF F p := by
  have e : ∀ i, 0 ≤ i → i ≤ 5 → stR F p f (240 + 6 * p + i) = F (240 + 6 * p + i) := fun i i0 i5 => by
    unfold stR
    rw [comesF_n (by omega) (by omega) (by omega) (by omega) (by omega) (by omega)]
    unfold blkF
    rw [if_pos (by omega), show 240 + 6 * p + i - (240 + 6 * p) = i by omega]
  have e0 := e 0 (by omega) (by omega)
  rw [Int.add_zero] at e0
  unfold nmF
  rw [e0, e 1 (by omega) (by omega), e 2 (by omega) (by omega), e 3 (by omega) (by omega), e 4 (by omega) (by omega), e 5 (by omega) (by omega)]
theorem stR_nq {F f : Int → Int} {p q : Int} (h0 : 0 ≤ p) (h1 : p < 40) (q0 : 0 ≤ q) (h : q ≠ p) : nmF (stR F p f) q = nmF f q := by
  unfold nmF
  rw [stR_o h0 h1 (by omega) (by omega) (by omega) (by omega) (by omega) (by omega) (by omega), stR_o h0 h1 (by omega) (by omega) (by omega) (by omega) (by omega) (by omega) (by omega), stR_o h0 h1 (by omega) (by omega) (by omega) (by omega) (by omega) (by omega) (by omega), stR_o h0 h1 (by omega) (by omega) (by omega) (by omega) (by omega) (by omega) (by omega), stR_o h0 h1 (by omega) (by omega) (by omega) (by omega) (by omega) (by omega) (by omega), stR_o h0 h1 (by omega) (by omega) (by omega) (by omega) (by omega) (by omega) (by omega)]
theorem stR_ok {F f : Int → Int} {p : Int} (hO : rowOk f) (hl : ltr F) (h0 : 0 ≤ p) (h1 : p < 40) (fp : f p = 0) (hx : in8 (F (40 + p))) (hy : in8 (F (80 + p))) (hz : in8 (F (120 + p))) : rowOk (stR F p f) := by
  have ag : ag2 f (blkF (fun i => F (240 + 6 * p + i)) (240 + 6 * p) f 6) := fun j hj => by unfold blkF; rw [if_neg (by omega)]
  have bl : ∀ j, (j < 240 + 6 * p ∨ 240 + 6 * p + 6 ≤ j) → blkF (fun i => F (240 + 6 * p + i)) (240 + 6 * p) f 6 j = f j := fun j hj => by unfold blkF; rw [if_neg (by omega)]
  have hOb : rowOk (blkF (fun i => F (240 + 6 * p + i)) (240 + 6 * p) f 6) := by
    refine ⟨invF_c2 ag hO.1, rtP_c2 ag hO.2.1, fun q k a b d e => ?_, ?_, ?_⟩
    · by_cases z : q = p
      · rw [z]
        unfold blkF
        rw [if_pos (by omega), show 240 + 6 * p + k - (240 + 6 * p) = k by omega]
        exact hl p k h0 h1 d e
      · rw [bl _ (by omega)]; exact hO.2.2.1 q k a b d e
    · rw [bl _ (by omega)]; exact hO.2.2.2.1
    · rw [bl _ (by omega)]; exact hO.2.2.2.2
  exact rowOk_comes hOb h0 h1 (by rw [bl _ (by omega), fp]; decide) hx hy hz
section SG
variable {n : Nat} {c : Int} {σ : sxS} {K : Option sxV → sxT → sxS → Prop} {f F : Int → Int}
theorem x36S (hP : PT σ 7 f) (hO : rowOk f) (h4 : σ 7 4 = f 480) {p : Int} (p0 : 0 ≤ p) (p1 : p < 40) (fp : f p = 0) (hx : in8 (F (40 + p))) (hy : in8 (F (80 + p))) (hz : in8 (F (120 + p))) (hK : ∀ σ', fr σ σ' 7 11 → PT (sc σ' 11 (up1 (σ' 11) p (nmF F p))) 7 (stR F p f) → σ' 7 4 = stR F p f 480 → K none (T0 n) σ') : Rn 36 0 [some (vR 7), some (vI p), some (vI (pk (F (40 + p)) (F (80 + p)) (F (120 + p))))] [] (T0 n) σ K := by
  have ag : ag2 f (blkF (fun i => F (240 + 6 * p + i)) (240 + 6 * p) f 6) := fun j hj => by unfold blkF; rw [if_neg (by omega)]
  have bl : ∀ j, (j < 240 + 6 * p ∨ 240 + 6 * p + 6 ≤ j) → blkF (fun i => F (240 + 6 * p + i)) (240 + 6 * p) f 6 j = f j := fun j hj => by unfold blkF; rw [if_neg (by omega)]
  refine x36 isP7 (rA_c2 ag hP.1) (invF_c2 ag hO.1) (by rw [h4]; exact ag 480 (by omega)) p0 p1 (by rw [bl _ (by omega), fp]) hx hy hz (fun σ2 b1 b2 b3 b4 b5 => ?_)
  have b5' : rA σ2 7 (stR F p f) := b5
  have sq : ∀ k, k ≠ 11 → sc σ2 11 (up1 (σ2 11) p (nmF F p)) k = σ2 k := fun k hk => by rw [sc_at, if_neg hk]
  refine hK σ2 b1 ⟨?_, fun q q0 q1 hq => ?_, fun q q0 q1 => ?_⟩ ?_
  · unfold rA rL rP at b5' ⊢
    rw [sq 7 (by decide), sq (7 + 1) (by decide), sq (7 + 2) (by decide), sq (7 + 3) (by decide)]
    exact b5'
  · rw [sq (7 + 2) (by decide)]
    by_cases zq : q = p
    · have := (comesF_t (f := blkF (fun i => F (240 + 6 * p + i)) (240 + 6 * p) f 6) (x := F (40 + p)) (y := F (80 + p)) (z := F (120 + p)) p0 p1).1
      rw [zq] at hq
      unfold stR at hq
      omega
    · rw [stR_o p0 p1 zq (by omega) (by omega) (by omega) (by omega) (by omega) (by omega)] at hq
      rw [(b4 q zq).2]; exact hP.2.1 q q0 q1 hq
  · show (stR F p f q = 1 → sc σ2 11 (up1 (σ2 11) p (nmF F p)) 11 q = nmF (stR F p f) q) ∧ (stR F p f q ≠ 1 → sc σ2 11 (up1 (σ2 11) p (nmF F p)) 11 q = 0)
    rw [sc_at, if_pos rfl]
    by_cases zq : q = p
    · have ct := (comesF_t (f := blkF (fun i => F (240 + 6 * p + i)) (240 + 6 * p) f 6) (x := F (40 + p)) (y := F (80 + p)) (z := F (120 + p)) p0 p1).1
      rw [zq, up1_s, stR_nm p0 p1]
      exact ⟨fun _ => rfl, fun w => absurd ct w⟩
    · have b2' : σ2 11 = σ 11 := b2
      rw [up1_n zq, b2', stR_nq p0 p1 q0 zq, stR_o p0 p1 zq (by omega) (by omega) (by omega) (by omega) (by omega) (by omega)]
      exact hP.2.2 q q0 q1
  · rw [b3, h4, stR_o p0 p1 (by omega) (by omega) (by omega) (by omega) (by omega) (by omega) (by omega)]
theorem x15l {C : Int} (hl : ltr F) : ∀ (k : Nat) (p : Int) (f : Int → Int) (σ : sxS), p + k = C → 0 ≤ p → cSt σ C F → PT σ 7 f → rowOk f → σ 7 4 = f 480 → (∀ q, p ≤ q → q < 40 → f q = 0) → (∀ σ', fr σ σ' 7 11 → PT σ' 7 (sgF F k p f) → rowOk (sgF F k p f) → σ' 7 4 = sgF F k p f 480 → Rn 15 101 [some (vR 1), some (vI 1), some (vI C)] [] (T0 n) σ' K) → Rn 15 49 [some (vR 1), some (vI 1), some (vI p)] [] (T0 n) σ K := by
  intro k
  induction k with
  | zero =>
    intro p f σ hp p0 hS hP hO h4 hz hK
    obtain rfl : p = C := by omega
    have nx := hK σ (fun _ _ => rfl) hP hO h4
    have s1 := hS.1
    rw [s15_49]
    simp only [s15_50, s15_51, s15_54, s15_57, Int.reduceToNat, Int.reducePow, Nat.reducePow, Int.reduceLE, Int.reduceLT, Int.reduceNeg, Int.reduceEq, Int.reduceNe, Int.reduceAdd, Int.reduceSub, Int.reduceMul, and_self, sx_push, tf, List.length_cons, List.length_nil, Option.some.injEq, exists_eq_left', Nat.reduceAdd, Nat.reduceLeDiff, true_and, and_true, true_or, or_true, Int.zero_add, Nat.zero_le, eq_self, ne_eq, not_true_eq_false, not_false_eq_true, false_implies, true_implies, implies_true, b2i_0, b2i_1, b2i_01, up_sc, sc_at, sc_sc, ite_true, ite_false, if_true, if_false, Nat.reduceEqDiff, reduceIte, s1]
    repeat' (first | intro _ | refine And.intro ?_ ?_)
    all_goals first | omega | exact nx
  | succ k ih =>
    intro p f σ hp p0 hS hP hO h4 hz hK
    obtain ⟨s1, s2, s3⟩ := hS
    obtain ⟨e6, e5, ix, iy, iz⟩ := s3 p p0 (by omega)
    have go : Rn 36 0 [some (vR 7), some (vI p), some (vI (pk (F (40 + p)) (F (80 + p)) (F (120 + p))))] [] (T0 n) σ (fun r T' σ' => Rn 15 77 [some (vR 1), some (vI 1), some (vI p)] (sx_push r []) T' σ' K) := by
      refine x36S hP hO h4 p0 (by omega) (hz p (by omega) (by omega)) ix iy iz (fun σ1 f1 f2 f3 => ?_)
      have g6 : σ1 6 p = nmF F p := by rw [f1 6 (by omega), e6]
      have hS2 : cSt (sc σ1 11 (up1 (σ1 11) p (nmF F p))) C F := cSt_4 (σ := σ) ⟨s1, s2, s3⟩ (by rw [sc_at, if_neg (by decide), f1 4 (by omega)]) (by rw [sc_at, if_neg (by decide), f1 5 (by omega)]) (by rw [sc_at, if_neg (by decide), f1 6 (by omega)])
      have nx := ih (p + 1) (stR F p f) _ (by omega) (by omega) hS2 f2 (stR_ok hO hl p0 (by omega) (hz p (by omega) (by omega)) ix iy iz) (by rw [sc_at, if_neg (by decide)]; exact f3) (fun q q0 q1 => by rw [stR_o p0 (by omega) (by omega) (by omega) (by omega) (by omega) (by omega) (by omega) (by omega)]; exact hz q (by omega) q1) (fun σ2 m1 m2 m3 m4 => hK σ2 (fun q hq => by rw [m1 q hq, sc_at, if_neg (by omega), f1 q hq]) m2 m3 m4)
      simp only [s15_77, s15_78, s15_81, s15_84, s15_85, s15_86, s15_89, s15_92, s15_93, s15_94, s15_95, s15_98, Int.reduceToNat, Int.reducePow, Nat.reducePow, Int.reduceLE, Int.reduceLT, Int.reduceNeg, Int.reduceEq, Int.reduceNe, Int.reduceAdd, Int.reduceSub, Int.reduceMul, and_self, sx_push, tf, List.length_cons, List.length_nil, Option.some.injEq, exists_eq_left', Nat.reduceAdd, Nat.reduceLeDiff, true_and, and_true, true_or, or_true, Int.zero_add, Nat.zero_le, eq_self, ne_eq, not_true_eq_false, not_false_eq_true, false_implies, true_implies, implies_true, b2i_0, b2i_1, b2i_01, up_sc, sc_at, sc_sc, ite_true, ite_false, if_true, if_false, Nat.reduceEqDiff, reduceIte, g6]
      repeat' (first | intro _ | refine And.intro ?_ ?_)
      all_goals first | omega | exact nx
    rw [s15_49]
    simp only [s15_50, s15_51, s15_54, s15_57, s15_60, s15_61, s15_64, s15_65, s15_66, s15_69, s15_72, s15_73, s15_74, Int.reduceToNat, Int.reducePow, Nat.reducePow, Int.reduceLE, Int.reduceLT, Int.reduceNeg, Int.reduceEq, Int.reduceNe, Int.reduceAdd, Int.reduceSub, Int.reduceMul, and_self, sx_push, tf, List.length_cons, List.length_nil, Option.some.injEq, exists_eq_left', Nat.reduceAdd, Nat.reduceLeDiff, true_and, and_true, true_or, or_true, Int.zero_add, Nat.zero_le, eq_self, ne_eq, not_true_eq_false, not_false_eq_true, false_implies, true_implies, implies_true, b2i_0, b2i_1, b2i_01, up_sc, sc_at, sc_sc, ite_true, ite_false, if_true, if_false, Nat.reduceEqDiff, reduceIte, s1, e5]
    repeat' (first | intro _ | refine And.intro ?_ ?_)
    all_goals first | omega | exact go
/-- the row of no points -/
def ro0 (g : Int → Int) (ms : Int) : Int → Int := up1 (blkF (fun _ => 0) 0 g 481) 480 ms
theorem ro0_0 {g : Int → Int} {ms j : Int} (j0 : 0 ≤ j) (j1 : j < 480) : ro0 g ms j = 0 := by
  unfold ro0
  rw [up1_n (by omega)]
  unfold blkF
  rw [if_pos (by omega)]
theorem ro0_ok {g : Int → Int} {ms : Int} (h : 0 ≤ ms ∧ ms ≤ 2) : rowOk (ro0 g ms) := by
  have f0 : ∀ j, 0 ≤ j → j < 480 → ro0 g ms j = 0 := fun j j0 j1 => ro0_0 j0 j1
  refine ⟨⟨fun p p0 p1 => Or.inl (f0 p p0 (by omega)), fun p p0 p1 => ?_, fun p p0 p1 hp => ?_, fun p q p0 p1 _ _ hp => ?_, fun p p0 p1 hp => ?_⟩, fun p p0 p1 hp => ?_, fun p k p0 p1 _ _ => ?_, ?_, ?_⟩
  · rw [f0 _ (by omega) (by omega), f0 _ (by omega) (by omega), f0 _ (by omega) (by omega)]; exact ⟨⟨by omega, by omega⟩, ⟨by omega, by omega⟩, by omega, by omega⟩
  · rw [f0 p p0 (by omega)] at hp; omega
  · rw [f0 p p0 (by omega)] at hp; omega
  · rw [f0 p p0 (by omega)] at hp; omega
  · rw [f0 p p0 (by omega)] at hp; omega
  · rw [f0 _ (by omega) (by omega)]; omega
  · unfold ro0; rw [up1_s]; omega
  · unfold ro0; rw [up1_s]; omega
/-- the class -/
theorem x15g {t : Int → Int} {L : Int} (h : tpOk σ t L) (hK1 : ∀ σ' ms e m C F, mrG t L ms e → psG t L m 0 (fun _ => 0) e C F → (0 ≤ C ∧ C ≤ 40) → (0 ≤ ms ∧ ms ≤ 2) → (∀ k, k ≠ 2 → k ≠ 4 → k ≠ 5 → k ≠ 6 → (k < 7 ∨ 11 < k) → k ≠ 17 → k ≠ 119 → k ≠ 141 → σ' k = σ k) → σ' 2 = up1 (σ 2) 1 0 → σ' 17 = up1 (σ 17) 2 0 → σ' 119 = up1 (up1 (up1 (σ 119) 10 (-1)) 9 0) 8 0 → σ' 141 = up1 (σ 141) 5 0 → PT σ' 7 (sgF F C.toNat 0 (ro0 (σ 150) ms)) → rowOk (sgF F C.toNat 0 (ro0 (σ 150) ms)) → σ' 7 4 = sgF F C.toNat 0 (ro0 (σ 150) ms) 480 → σ' 4 5 = 0 → σ' 4 6 = -1 → K (some (vI (1 + C))) (T0 n) σ') (hr : inI (σ 148 1 + 1)) (hK0 : ∀ σ' k p, ((k = 1 ∧ mrB t L p) ∨ ∃ ms e m, mrG t L ms e ∧ psB t L m 0 (fun _ => 0) e k p) → (∀ q, q ≠ 2 → q ≠ 4 → q ≠ 5 → q ≠ 6 → q ≠ 148 → σ' q = σ q) → σ' 2 = up1 (σ 2) 1 0 → σ' 148 = up1 (σ 148) 1 (σ 148 1 + 1) → σ' 4 5 = k → σ' 4 6 = p → K (some (vI (-1))) (T0 n) σ') : Rn 15 0 [some (vR 1), none, none] [] (T0 n) σ K := by
  have h2 := h.2.1
  have go : Rn 16 0 [some (vR 4), none] [] (T0 n) σ (fun r T' σ' => Rn 15 7 [some (vR 1), none, none] (sx_push r []) T' σ' K) := by
    refine x16 h (fun σ1 ms e m C F g1 g2 f1 f2 f3 f4 f5 => ?_) (fun σ1 k p g1 f1 f2 f3 => ?_)
    · have hms := g1.2.2.1
      have s2 := f2.2.1
      have fin : Rn 35 0 [some (vR 7)] [] (T0 n) (sc σ1 2 (up1 (σ1 2) 1 0)) (fun r T' σ' => Rn 15 33 [some (vR 1), some (vI 1), none] (sx_push r []) T' σ' K) := by
        refine x35 isP7 (fun σ2 q1 q2 q3 q4 q5 => ?_)
        have p1 : ∀ k, (k < 7 ∨ 11 < k) → k ≠ 2 → σ2 k = σ1 k := fun k hk k2 => by rw [q1 k hk, sc_at, if_neg k2]
        have z3 : σ2 4 3 = ms := by rw [p1 4 (by omega) (by omega), f3]
        have f0 : ∀ j, 0 ≤ j → j < 480 → ro0 (σ 150) ms j = 0 := fun j j0 j1 => ro0_0 j0 j1
        have g480 : ro0 (σ 150) ms 480 = ms := by unfold ro0; rw [up1_s]
        have e0 : sc σ2 7 (up1 (σ2 7) 4 ms) 7 = up1 (σ2 7) 4 ms := by rw [sc_at, if_pos rfl]
        have e1 : ∀ k, k ≠ 7 → sc σ2 7 (up1 (σ2 7) 4 ms) k = σ2 k := fun k hk => by rw [sc_at, if_neg hk]
        have P0 : PT (sc σ2 7 (up1 (σ2 7) 4 ms)) 7 (ro0 (σ 150) ms) := by
          refine ⟨⟨fun p p0 p1 => Or.inr ⟨f0 p p0 (by omega), ?_⟩, fun p p0 p1 hp => ?_, ?_, ?_⟩, fun p p0 p1 _ => ?_, fun p p0 p1 => ⟨fun hp => ?_, fun _ => ?_⟩⟩
          · rw [e1 (7 + 2) (by decide), (q2 p p0 p1).1]; omega
          · rw [f0 p p0 (by omega)] at hp; omega
          · rw [e0, up1_n (by omega), q4]
            rcases rootF_sp (ro0 (σ 150) ms) 40 0 with ⟨w, _⟩ | ⟨w1, w2, w3, _⟩
            · exact w.symm
            · rw [f0 _ (by omega) (by omega)] at w3; omega
          · rw [e0, up1_n (by omega), q5, cntF_none 40 0 0 (by omega) (fun q q0 q1 => f0 q q0 (by omega))]
          · rw [e1 (7 + 2) (by decide)]; exact (q2 p p0 p1).1
          · rw [f0 p p0 (by omega)] at hp; omega
          · rw [e1 (7 + 4) (by decide)]; exact (q2 p p0 p1).2.2
        have S0 : cSt (sc σ2 7 (up1 (σ2 7) 4 ms)) C F := cSt_4 (σ := σ1) f2 (by rw [e1 4 (by decide), p1 4 (by omega) (by omega)]) (by rw [e1 5 (by decide), p1 5 (by omega) (by omega)]) (by rw [e1 6 (by decide), p1 6 (by omega) (by omega)])
        have a4 : ∀ k, (k < 7 ∨ 11 < k) → k ≠ 2 → sc σ2 7 (up1 (σ2 7) 4 ms) k = σ1 k := fun k hk k2 => by rw [e1 k (by omega), p1 k hk k2]
        have a2 : sc σ2 7 (up1 (σ2 7) 4 ms) 2 = up1 (σ 2) 1 0 := by rw [e1 2 (by decide), q1 2 (by omega), sc_at, if_pos rfl, f1 2 (by decide) (by decide) (by decide)]
        have lp : Rn 15 49 [some (vR 1), some (vI 1), some (vI 0)] [] (T0 n) (sc σ2 7 (up1 (σ2 7) 4 ms)) K := by
          refine x15l (C := C) (F := F) (psG_ltr h2.2 m 0 e _ (by
            have := g1
            obtain ⟨_, _, _, _, y9, rfl⟩ := this
            apply Classical.byContradiction
            intro w
            rw [show bt t L _ = -1 from if_neg (by omega)] at y9
            omega) (by
            have := g1
            obtain ⟨_, _, _, _, y9, rfl⟩ := this
            apply Classical.byContradiction
            intro w
            rw [bt_out (by omega)] at y9
            omega) g2 (fun p k _ _ _ _ => by show (0 : Int) ≤ 0 ∧ (0 : Int) ≤ 26; omega)) C.toNat 0 (ro0 (σ 150) ms) _ (by omega) (by omega) S0 P0 (ro0_ok hms) (by rw [e0, up1_s, g480]) (fun q q0 q1 => f0 q q0 (by omega)) (fun σ3 w1 w2 w3 w4 => ?_)
          have nx := hK1 (sc (sc (sc σ3 17 (up1 (σ3 17) 2 0)) 119 (up1 (up1 (up1 (σ3 119) 10 (-1)) 9 0) 8 0)) 141 (up1 (σ3 141) 5 0)) ms e m C F g1 g2 s2 hms (fun k b2 b4 b5 b6 b7 b17 b119 b141 => by rw [sc_at, if_neg b141, sc_at, if_neg b119, sc_at, if_neg b17, w1 k b7, a4 k b7 b2, f1 k b4 b5 b6]) (by rw [sc_at, if_neg (by decide), sc_at, if_neg (by decide), sc_at, if_neg (by decide), w1 2 (by omega), a2]) (by rw [sc_at, if_neg (by decide), sc_at, if_neg (by decide), sc_at, if_pos rfl, w1 17 (by omega), a4 17 (by omega) (by omega), f1 17 (by decide) (by decide) (by decide)]) (by rw [sc_at, if_neg (by decide), sc_at, if_pos rfl, w1 119 (by omega), a4 119 (by omega) (by omega), f1 119 (by decide) (by decide) (by decide)]) (by rw [sc_at, if_pos rfl, w1 141 (by omega), a4 141 (by omega) (by omega), f1 141 (by decide) (by decide) (by decide)]) (PT_cells (fun k k1 k2 => by rw [sc_at, if_neg (by omega), sc_at, if_neg (by omega), sc_at, if_neg (by omega)]) w2) w3 (by rw [sc_at, if_neg (by decide), sc_at, if_neg (by decide), sc_at, if_neg (by decide)]; exact w4) (by rw [sc_at, if_neg (by decide), sc_at, if_neg (by decide), sc_at, if_neg (by decide), w1 4 (by omega), a4 4 (by omega) (by omega), f4]) (by rw [sc_at, if_neg (by decide), sc_at, if_neg (by decide), sc_at, if_neg (by decide), w1 4 (by omega), a4 4 (by omega) (by omega), f5])
          have c44 : σ3 4 4 = C := by rw [w1 4 (by omega), a4 4 (by omega) (by omega), f2.1]
          simp only [s15_101, s15_102, s15_105, s15_108, s15_109, s15_112, s15_115, s15_116, s15_119, s15_120, s15_123, s15_124, s15_125, s15_128, s15_131, s15_132, s43_0, s43_1, s43_2, s43_5, Int.reduceToNat, Int.reducePow, Nat.reducePow, Int.reduceLE, Int.reduceLT, Int.reduceNeg, Int.reduceEq, Int.reduceNe, Int.reduceAdd, Int.reduceSub, Int.reduceMul, and_self, sx_push, tf, List.length_cons, List.length_nil, Option.some.injEq, exists_eq_left', Nat.reduceAdd, Nat.reduceLeDiff, true_and, and_true, true_or, or_true, Int.zero_add, Nat.zero_le, eq_self, ne_eq, not_true_eq_false, not_false_eq_true, false_implies, true_implies, implies_true, b2i_0, b2i_1, b2i_01, up_sc, sc_at, sc_sc, ite_true, ite_false, if_true, if_false, Nat.reduceEqDiff, reduceIte, x44 (show isS 119 from Or.inl rfl), c44]
          repeat' (first | intro _ | refine And.intro ?_ ?_)
          all_goals first | omega | exact nx
        simp only [s15_33, s15_34, s15_37, s15_38, s15_41, s15_44, s15_47, s15_48, Int.reduceToNat, Int.reducePow, Nat.reducePow, Int.reduceLE, Int.reduceLT, Int.reduceNeg, Int.reduceEq, Int.reduceNe, Int.reduceAdd, Int.reduceSub, Int.reduceMul, and_self, sx_push, tf, List.length_cons, List.length_nil, Option.some.injEq, exists_eq_left', Nat.reduceAdd, Nat.reduceLeDiff, true_and, and_true, true_or, or_true, Int.zero_add, Nat.zero_le, eq_self, ne_eq, not_true_eq_false, not_false_eq_true, false_implies, true_implies, implies_true, b2i_0, b2i_1, b2i_01, up_sc, sc_at, sc_sc, ite_true, ite_false, if_true, if_false, Nat.reduceEqDiff, reduceIte, z3]
        repeat' (first | intro _ | refine And.intro ?_ ?_)
        all_goals first | omega | exact lp
      simp only [s15_7, s15_8, s15_9, s15_12, s15_13, s15_16, s15_17, s15_26, s15_27, s15_30, Int.reduceToNat, Int.reducePow, Nat.reducePow, Int.reduceLE, Int.reduceLT, Int.reduceNeg, Int.reduceEq, Int.reduceNe, Int.reduceAdd, Int.reduceSub, Int.reduceMul, and_self, sx_push, tf, List.length_cons, List.length_nil, Option.some.injEq, exists_eq_left', Nat.reduceAdd, Nat.reduceLeDiff, true_and, and_true, true_or, or_true, Int.zero_add, Nat.zero_le, eq_self, ne_eq, not_true_eq_false, not_false_eq_true, false_implies, true_implies, implies_true, b2i_0, b2i_1, b2i_01, up_sc, sc_at, sc_sc, ite_true, ite_false, if_true, if_false, Nat.reduceEqDiff, reduceIte]
      repeat' (first | intro _ | refine And.intro ?_ ?_)
      all_goals first | omega | exact fin
    · have nx := hK0 (sc (sc σ1 2 (up1 (σ1 2) 1 0)) 148 (up1 (σ1 148) 1 (σ1 148 1 + 1))) k p g1 (fun q b2 b4 b5 b6 b8 => by rw [sc_at, if_neg b8, sc_at, if_neg b2, f1 q b4 b5 b6]) (by rw [sc_at, if_neg (by decide), sc_at, if_pos rfl, f1 2 (by decide) (by decide) (by decide)]) (by rw [sc_at, if_pos rfl, f1 148 (by decide) (by decide) (by decide)]) (by rw [sc_at, if_neg (by decide), sc_at, if_neg (by decide), f2]) (by rw [sc_at, if_neg (by decide), sc_at, if_neg (by decide), f3])
      have w12 := fun K => x12 (n := n) (K := K) (σ := sc σ1 2 (up1 (σ1 2) 1 0)) (w := 1) (by omega) (by omega) (by rw [sc_at, if_neg (by decide), f1 148 (by decide) (by decide) (by decide)]; exact hr)
      have s148 : sc σ1 2 (up1 (σ1 2) 1 0) 148 = σ1 148 := by rw [sc_at, if_neg (by decide)]
      rw [s148] at w12
      simp only [s15_7, s15_8, s15_9, s15_12, s15_13, s15_16, s15_17, s15_20, s15_21, s15_22, s15_25, Int.reduceToNat, Int.reducePow, Nat.reducePow, Int.reduceLE, Int.reduceLT, Int.reduceNeg, Int.reduceEq, Int.reduceNe, Int.reduceAdd, Int.reduceSub, Int.reduceMul, and_self, sx_push, tf, List.length_cons, List.length_nil, Option.some.injEq, exists_eq_left', Nat.reduceAdd, Nat.reduceLeDiff, true_and, and_true, true_or, or_true, Int.zero_add, Nat.zero_le, eq_self, ne_eq, not_true_eq_false, not_false_eq_true, false_implies, true_implies, implies_true, b2i_0, b2i_1, b2i_01, up_sc, sc_at, sc_sc, ite_true, ite_false, if_true, if_false, Nat.reduceEqDiff, reduceIte, w12]
      repeat' (first | intro _ | refine And.intro ?_ ?_)
      all_goals first | omega | exact nx
  simp only [s15_0, s15_1, s15_4, Int.reduceToNat, Int.reducePow, Nat.reducePow, Int.reduceLE, Int.reduceLT, Int.reduceNeg, Int.reduceEq, Int.reduceNe, Int.reduceAdd, Int.reduceSub, Int.reduceMul, and_self, sx_push, tf, List.length_cons, List.length_nil, Option.some.injEq, exists_eq_left', Nat.reduceAdd, Nat.reduceLeDiff, true_and, and_true, true_or, or_true, Int.zero_add, Nat.zero_le, eq_self, ne_eq, not_true_eq_false, not_false_eq_true, false_implies, true_implies, implies_true, b2i_0, b2i_1, b2i_01, up_sc, sc_at, sc_sc, ite_true, ite_false, if_true, if_false, Nat.reduceEqDiff, reduceIte]
  repeat' (first | intro _ | refine And.intro ?_ ?_)
  all_goals first | omega | exact go
end SG
