/-! named -/
def dgT (t : Int → Int) (m i : Int) : Int := if i < m then t i - 96 else 0
def ltA (t : Int → Int) : Nat → Int → Bool
  | 0, _ => true
  | k + 1, i => if 97 ≤ t i ∧ t i ≤ 122 then ltA t k (i + 1) else false
def nmJ (t : Int → Int) : Nat → Int → Int → Int
  | 0, _, a => a
  | k + 1, i, a => nmJ t k (i + 1) (a + (t i - 96) * 2 ^ (5 * i).toNat)
theorem ltA_at {t : Int → Int} : ∀ (k : Nat) (i : Int), ltA t k i = true → ∀ j, i ≤ j → j < i + k → 97 ≤ t j ∧ t j ≤ 122 := by
  intro k
  induction k with
  | zero => intro i _ j h1 h2; omega
  | succ k ih =>
    intro i h j h1 h2
    unfold ltA at h
    split at h
    · rename_i e
      by_cases e2 : j = i
      · rw [e2]; exact e
      · exact ih (i + 1) h j (by omega) (by omega)
    · cases h
def nmD (t : Int → Int) (m : Int) : Int := dgT t m 0 + 32 * dgT t m 1 + 1024 * dgT t m 2 + 32768 * dgT t m 3 + 1048576 * dgT t m 4 + 33554432 * dgT t m 5
theorem nmJ_eq {t : Int → Int} {m : Int} (m1 : 1 ≤ m) (m6 : m ≤ 6) : nmJ t m.toNat 0 0 = nmD t m := by
  have p0 : (2 : Int) ^ (5 * 0 : Int).toNat = 1 := by decide
  have p1 : (2 : Int) ^ (5 * (0 + 1) : Int).toNat = 32 := by decide
  have p2 : (2 : Int) ^ (5 * (0 + 1 + 1) : Int).toNat = 1024 := by decide
  have p3 : (2 : Int) ^ (5 * (0 + 1 + 1 + 1) : Int).toNat = 32768 := by decide
  have p4 : (2 : Int) ^ (5 * (0 + 1 + 1 + 1 + 1) : Int).toNat = 1048576 := by decide
  have p5 : (2 : Int) ^ (5 * (0 + 1 + 1 + 1 + 1 + 1) : Int).toNat = 33554432 := by decide
  have q2 : (0 + 1 + 1 : Int) = 2 := by decide
  have q3 : (0 + 1 + 1 + 1 : Int) = 3 := by decide
  have q4 : (0 + 1 + 1 + 1 + 1 : Int) = 4 := by decide
  have q5 : (0 + 1 + 1 + 1 + 1 + 1 : Int) = 5 := by decide
  have q1 : (0 + 1 : Int) = 1 := by decide
  unfold nmD dgT
  rcases (show m = 1 ∨ m = 2 ∨ m = 3 ∨ m = 4 ∨ m = 5 ∨ m = 6 by omega) with e | e | e | e | e | e <;> subst e
  · rw [show (1 : Int).toNat = 1 from rfl]; simp only [nmJ, p0]; omega
  · rw [show (2 : Int).toNat = 2 from rfl]; simp only [nmJ, p0, p1]; rw [q1]; omega
  · rw [show (3 : Int).toNat = 3 from rfl]; simp only [nmJ, p0, p1, p2]; rw [q2, q1]; omega
  · rw [show (4 : Int).toNat = 4 from rfl]; simp only [nmJ, p0, p1, p2, p3]; rw [q3, q2, q1]; omega
  · rw [show (5 : Int).toNat = 5 from rfl]; simp only [nmJ, p0, p1, p2, p3, p4]; rw [q4, q3, q2, q1]; omega
  · rw [show (6 : Int).toNat = 6 from rfl]; simp only [nmJ, p0, p1, p2, p3, p4, p5]; rw [q5, q4, q3, q2, q1]; omega
def eqJ (f t : Int → Int) (m p : Int) : Nat → Int → Bool
  | 0, _ => true
  | k + 1, i => if f (240 + 6 * p + i) = dgT t m i then eqJ f t m p k (i + 1) else false
theorem eq6 {f t : Int → Int} (hl : ltr f) {m p : Int} (p0 : 0 ≤ p) (p1 : p < 40) (hm : m ≤ 6) (ht : ∀ j, 0 ≤ j → j < m → 97 ≤ t j ∧ t j ≤ 122) : eqJ f t m p 6 0 = true ↔ nmF f p = nmD t m := by
  have l0 := hl p 0 p0 p1 (by omega) (by omega)
  have l1 := hl p 1 p0 p1 (by omega) (by omega)
  have l2 := hl p 2 p0 p1 (by omega) (by omega)
  have l3 := hl p 3 p0 p1 (by omega) (by omega)
  have l4 := hl p 4 p0 p1 (by omega) (by omega)
  have l5 := hl p 5 p0 p1 (by omega) (by omega)
  have dg : ∀ i, 0 ≤ i → 0 ≤ dgT t m i ∧ dgT t m i ≤ 26 := fun i i0 => by
    unfold dgT
    split
    · have := ht i i0 (by omega); omega
    · omega
  have d0 := dg 0 (by omega)
  have d1 := dg 1 (by omega)
  have d2' := dg 2 (by omega)
  have d3 := dg 3 (by omega)
  have d4 := dg 4 (by omega)
  have d5 := dg 5 (by omega)
  have q2 : (0 + 1 + 1 : Int) = 2 := by decide
  have q3 : (0 + 1 + 1 + 1 : Int) = 3 := by decide
  have q4 : (0 + 1 + 1 + 1 + 1 : Int) = 4 := by decide
  have q5 : (0 + 1 + 1 + 1 + 1 + 1 : Int) = 5 := by decide
  have q1 : (0 + 1 : Int) = 1 := by decide
  simp only [eqJ]
  rw [q5, q4, q3, q2, q1, Int.add_zero] at *
  unfold nmF nmD
  generalize f (240 + 6 * p) = a0 at *
  generalize f (240 + 6 * p + 1) = a1 at *
  generalize f (240 + 6 * p + 2) = a2 at *
  generalize f (240 + 6 * p + 3) = a3 at *
  generalize f (240 + 6 * p + 4) = a4 at *
  generalize f (240 + 6 * p + 5) = a5 at *
  generalize dgT t m 0 = b0 at *
  generalize dgT t m 1 = b1 at *
  generalize dgT t m 2 = b2 at *
  generalize dgT t m 3 = b3 at *
  generalize dgT t m 4 = b4 at *
  generalize dgT t m 5 = b5 at *
  by_cases e0 : a0 = b0
  · rw [if_pos e0]
    by_cases e1 : a1 = b1
    · rw [if_pos e1]
      by_cases e2 : a2 = b2
      · rw [if_pos e2]
        by_cases e3 : a3 = b3
        · rw [if_pos e3]
          by_cases e4 : a4 = b4
          · rw [if_pos e4]
            by_cases e5 : a5 = b5
            · rw [if_pos e5]; simp; omega
            · rw [if_neg e5]; simp; omega
          · rw [if_neg e4]; simp; omega
        · rw [if_neg e3]; simp; omega
      · rw [if_neg e2]; simp; omega
    · rw [if_neg e1]; simp; omega
  · rw [if_neg e0]; simp; omega
def namS (f t : Int → Int) (m : Int) : Int := if (1 ≤ m ∧ m ≤ 6) ∧ ltA t m.toNat 0 = true then fnd (fun p => decide (f p = 1 ∧ nmF f p = nmD t m)) 40 0 else -1
theorem or_add {a b : Int} {k : Nat} (a0 : 0 ≤ a) (a1 : a < 2 ^ k) (b0 : 0 ≤ b) (h : a + b * 2 ^ k < 2147483648) : sx_or a (b * 2 ^ k) = a + b * 2 ^ k := by
  obtain ⟨x, rfl⟩ := Int.eq_ofNat_of_zero_le a0
  obtain ⟨y, rfl⟩ := Int.eq_ofNat_of_zero_le b0
  have e : (y : Int) * 2 ^ k = ((2 ^ k * y : Nat) : Int) := by rw [Int.natCast_mul, Int.natCast_pow, Int.mul_comm]; rfl
  have hx : x < 2 ^ k := by
    have : (x : Int) < ((2 ^ k : Nat) : Int) := by rw [Int.natCast_pow]; exact a1
    omega
  rw [e] at h ⊢
  rw [sx_orN (by omega) (by omega), Nat.or_comm, ← Nat.two_pow_add_eq_or_of_lt hx]
  omega
section NM
variable {n : Nat} {c : Int} {σ : sxS} {K : Option sxV → sxT → sxS → Prop} {f t : Int → Int}
theorem p32 {i : Int} (i0 : 0 ≤ i) (i5 : i ≤ 5) : (1 : Int) ≤ 2 ^ (5 * i).toNat ∧ (2 : Int) ^ (5 * i).toNat ≤ 33554432 ∧ (2 : Int) ^ (5 * (i + 1)).toNat = 32 * 2 ^ (5 * i).toNat := by
  have : ∀ j : Fin 6, (1 : Int) ≤ 2 ^ (5 * (j : Nat)) ∧ (2 : Int) ^ (5 * (j : Nat)) ≤ 33554432 ∧ (2 : Int) ^ (5 * ((j : Nat) + 1)) = 32 * 2 ^ (5 * (j : Nat)) := by decide
  have z := this ⟨i.toNat, by omega⟩
  rw [show (5 * i).toNat = 5 * i.toNat by omega, show (5 * (i + 1)).toNat = 5 * (i.toNat + 1) by omega]
  exact z
theorem x51l (hl : σ 2 1 ≤ 6) (ht : ∀ j, 0 ≤ j → j < σ 2 1 → σ 3 j = t j) : ∀ (k : Nat) (i a : Int) (u : Option sxV), i + k = σ 2 1 → 0 ≤ i → 0 ≤ a → a < 2 ^ (5 * i).toNat → K (some (vI (if ltA t k i = true then nmJ t k i a else -1))) (T0 n) σ → Rn 51 23 [some (vR 2), some (vI a), some (vI i), u] [] (T0 n) σ K := by
  intro k
  induction k with
  | zero =>
    intro i a u hi i0 a0 a1 hK
    unfold ltA nmJ at hK
    rw [if_pos rfl] at hK
    rw [s51_23]
    simp only [s51_24, s51_25, s51_28, s51_65, s51_66, sx_push, tf, List.length_cons, List.length_nil, Option.some.injEq, exists_eq_left', Nat.reduceAdd, Nat.reduceLeDiff, true_and, and_true, true_or, or_true, Int.zero_add, Nat.zero_le, eq_self, ne_eq, not_true_eq_false, not_false_eq_true, false_implies, true_implies, implies_true, b2i_0, b2i_1, b2i_01, up_sc, sc_at, sc_sc, ite_true, ite_false, if_true, if_false, Nat.reduceEqDiff, reduceIte]
    repeat' (first | intro _ | refine And.intro ?_ ?_)
    all_goals first | omega | exact hK
  | succ k ih =>
    intro i a u hi i0 a0 a1 hK
    have pp := p32 (i := i) i0 (by omega)
    rw [s51_23]
    have b1 := fun K => x20 (n := n) (σ := σ) (K := K) (i := i)
    rw [if_pos (by omega), ht i i0 (by omega)] at b1
    unfold ltA nmJ at hK
    by_cases e : 97 ≤ t i ∧ t i ≤ 122
    · rw [if_pos e] at hK
      have v0 : 0 ≤ t i - 97 + 1 ∧ t i - 97 + 1 ≤ 26 := by omega
      have e1 : t i - 97 + 1 = t i - 96 := by omega
      have mb : (t i - 96) * 2 ^ (5 * i).toNat ≤ 26 * 2 ^ (5 * i).toNat := Int.mul_le_mul_of_nonneg_right (by omega) (by omega)
      have mn : 0 ≤ (t i - 96) * 2 ^ (5 * i).toNat := Int.mul_nonneg (by omega) (by omega)
      have oa := or_add (a := a) (b := t i - 96) (k := (5 * i).toNat) a0 a1 (by omega) (by omega)
      have x22' := fun K => x22 (n := n) (σ := σ) (K := K) (a := t i)
      rw [b2i_t e] at x22'
      have main := fun u => ih (i + 1) (a + (t i - 96) * 2 ^ (5 * i).toNat) u (by omega) (by omega) (by omega) (by rw [pp.2.2]; omega) hK
      simp only [s51_24, s51_25, s51_28, s51_31, s51_32, s51_33, s51_36, s51_37, s51_38, s51_41, s51_44, s51_45, s51_46, s51_47, s51_48, s51_50, s51_51, s51_52, s51_53, s51_54, s51_55, s51_56, s51_57, s51_58, s51_59, s51_62, Int.reduceToNat, Int.reducePow, Nat.reducePow, Int.reduceLE, Int.reduceLT, Int.reduceNeg, Int.reduceEq, Int.reduceNe, Int.reduceAdd, Int.reduceSub, Int.reduceMul, and_self, sx_push, tf, List.length_cons, List.length_nil, Option.some.injEq, exists_eq_left', Nat.reduceAdd, Nat.reduceLeDiff, true_and, and_true, true_or, or_true, Int.zero_add, Nat.zero_le, eq_self, ne_eq, not_true_eq_false, not_false_eq_true, false_implies, true_implies, implies_true, b2i_0, b2i_1, b2i_01, up_sc, sc_at, sc_sc, ite_true, ite_false, if_true, if_false, Nat.reduceEqDiff, reduceIte, b1, x22', e1, oa]
      repeat' (first | intro _ | refine And.intro ?_ ?_)
      all_goals first | omega | contradiction | exact main _
    · rw [if_neg e, if_neg (by decide)] at hK
      have x22' := fun K => x22 (n := n) (σ := σ) (K := K) (a := t i)
      rw [b2i_f e] at x22'
      simp only [s51_24, s51_25, s51_28, s51_31, s51_32, s51_33, s51_36, s51_37, s51_38, s51_41, s51_44, s51_45, Int.reduceToNat, Int.reducePow, Nat.reducePow, Int.reduceLE, Int.reduceLT, Int.reduceNeg, Int.reduceEq, Int.reduceNe, Int.reduceAdd, Int.reduceSub, Int.reduceMul, and_self, sx_push, tf, List.length_cons, List.length_nil, Option.some.injEq, exists_eq_left', Nat.reduceAdd, Nat.reduceLeDiff, true_and, and_true, true_or, or_true, Int.zero_add, Nat.zero_le, eq_self, ne_eq, not_true_eq_false, not_false_eq_true, false_implies, true_implies, implies_true, b2i_0, b2i_1, b2i_01, up_sc, sc_at, sc_sc, ite_true, ite_false, if_true, if_false, Nat.reduceEqDiff, reduceIte, b1, x22']
      repeat' (first | intro _ | refine And.intro ?_ ?_)
      all_goals first | omega | contradiction | exact hK
theorem x51 (h0 : 0 ≤ σ 2 1) (ht : ∀ j, 0 ≤ j → j < σ 2 1 → σ 3 j = t j) : Rn 51 0 [some (vR 2), none, none, none] [] (T0 n) σ K ↔ K (some (vI (if (1 ≤ σ 2 1 ∧ σ 2 1 ≤ 6) ∧ ltA t (σ 2 1).toNat 0 = true then nmD t (σ 2 1) else -1))) (T0 n) σ := by
  refine Rn_iff fun K hK => ?_
  by_cases e : 1 ≤ σ 2 1 ∧ σ 2 1 ≤ 6
  · have hK2 : K (some (vI (if ltA t (σ 2 1).toNat 0 = true then nmJ t (σ 2 1).toNat 0 0 else -1))) (T0 n) σ := by
      rw [nmJ_eq e.1 e.2]
      by_cases q : ltA t (σ 2 1).toNat 0 = true
      · rw [if_pos ⟨e, q⟩] at hK; rw [if_pos q]; exact hK
      · rw [if_neg (fun z => q z.2)] at hK; rw [if_neg q]; exact hK
    have main := x51l (n := n) e.2 ht (σ 2 1).toNat 0 0 none (by omega) (by omega) (by omega) (by decide) hK2
    simp only [s51_0, s51_1, s51_4, s51_5, s51_8, s51_9, s51_12, s51_14, s51_17, s51_18, s51_19, s51_20, s51_21, s51_22, sx_push, tf, List.length_cons, List.length_nil, Option.some.injEq, exists_eq_left', Nat.reduceAdd, Nat.reduceLeDiff, true_and, and_true, true_or, or_true, Int.zero_add, Nat.zero_le, eq_self, ne_eq, not_true_eq_false, not_false_eq_true, false_implies, true_implies, implies_true, b2i_0, b2i_1, b2i_01, up_sc, sc_at, sc_sc, ite_true, ite_false, if_true, if_false, Nat.reduceEqDiff, reduceIte]
    repeat' (first | intro _ | refine And.intro ?_ ?_)
    all_goals first | omega | exact main
  · rw [if_neg (fun z => e z.1)] at hK
    simp only [s51_0, s51_1, s51_4, s51_5, s51_8, s51_9, s51_12, s51_14, s51_17, s51_18, sx_push, tf, List.length_cons, List.length_nil, Option.some.injEq, exists_eq_left', Nat.reduceAdd, Nat.reduceLeDiff, true_and, and_true, true_or, or_true, Int.zero_add, Nat.zero_le, eq_self, ne_eq, not_true_eq_false, not_false_eq_true, false_implies, true_implies, implies_true, b2i_0, b2i_1, b2i_01, up_sc, sc_at, sc_sc, ite_true, ite_false, if_true, if_false, Nat.reduceEqDiff, reduceIte]
    repeat' (first | intro _ | refine And.intro ?_ ?_)
    all_goals first | omega | exact hK
theorem x52l (hr : rL σ 7 f) (hn : rN σ 7 f) {w : Int} : ∀ (k : Nat) (p : Int), p + k = 40 → 0 ≤ p → K (some (vI (fnd (fun p => decide (f p = 1 ∧ nmF f p = w)) k p))) (T0 n) σ → Rn 52 2 [some (vR 7), some (vI w), some (vI p)] [] (T0 n) σ K := by
  intro k
  induction k with
  | zero =>
    intro p hp p0 hK
    rw [s52_2]
    simp only [s52_0, s52_1, s52_3, s52_5, s52_8, s52_9, s52_12, s52_13, s52_14, s52_17, s52_18, s52_21, s52_22, s52_23, s52_24, s52_27, s52_28, s52_29, s52_32, s52_35, s52_36, sx_push, tf, List.length_cons, List.length_nil, Option.some.injEq, exists_eq_left', Nat.reduceAdd, Nat.reduceLeDiff, true_and, and_true, true_or, or_true, Int.zero_add, Nat.zero_le, eq_self, ne_eq, not_true_eq_false, not_false_eq_true, false_implies, true_implies, implies_true, b2i_0, b2i_1, b2i_01, up_sc, sc_at, sc_sc, ite_true, ite_false, if_true, if_false, Nat.reduceEqDiff, reduceIte]
    repeat' (first | intro _ | refine And.intro ?_ ?_)
    all_goals first | omega | exact hK
  | succ k ih =>
    intro p hp p0 hK
    have p1 : p < 40 := by omega
    rw [s52_2]
    unfold fnd at hK
    simp only [decide_eq_true_eq] at hK
    rcases rL7 hr p p0 p1 with ⟨c1, c2, c3, c4, c5, c6⟩ | ⟨c1, c2⟩
    · have e11 : σ 11 p = nmF f p := (hn p p0 p1).1 c1
      simp only [s52_0, s52_1, s52_3, s52_5, s52_8, s52_9, s52_12, s52_13, s52_14, s52_17, s52_18, s52_21, s52_22, s52_23, s52_24, s52_27, s52_28, s52_29, s52_32, s52_35, s52_36, sx_push, tf, List.length_cons, List.length_nil, Option.some.injEq, exists_eq_left', Nat.reduceAdd, Nat.reduceLeDiff, true_and, and_true, true_or, or_true, Int.zero_add, Nat.zero_le, eq_self, ne_eq, not_true_eq_false, not_false_eq_true, false_implies, true_implies, implies_true, b2i_0, b2i_1, b2i_01, up_sc, sc_at, sc_sc, ite_true, ite_false, if_true, if_false, Nat.reduceEqDiff, reduceIte, c2, e11]
      repeat' (first | intro _ | refine And.intro ?_ ?_)
      all_goals first | omega | (split at hK <;> first | exact hK | omega | exact ih _ (by omega) (by omega) hK)
    · rw [if_neg (by omega)] at hK
      simp only [s52_0, s52_1, s52_3, s52_5, s52_8, s52_9, s52_12, s52_13, s52_14, s52_17, s52_18, s52_21, s52_22, s52_23, s52_24, s52_27, s52_28, s52_29, s52_32, s52_35, s52_36, sx_push, tf, List.length_cons, List.length_nil, Option.some.injEq, exists_eq_left', Nat.reduceAdd, Nat.reduceLeDiff, true_and, and_true, true_or, or_true, Int.zero_add, Nat.zero_le, eq_self, ne_eq, not_true_eq_false, not_false_eq_true, false_implies, true_implies, implies_true, b2i_0, b2i_1, b2i_01, up_sc, sc_at, sc_sc, ite_true, ite_false, if_true, if_false, Nat.reduceEqDiff, reduceIte]
      repeat' (first | intro _ | refine And.intro ?_ ?_)
      all_goals first | omega | exact ih _ (by omega) (by omega) hK
theorem x206a {m : Int} (hm : m ≤ 6) : ∀ (k : Nat) (i : Int) (u v : Option sxV), i + k = m → 0 ≤ i → (ltA (σ 154) k i = true → ∀ i, Rn 206 48 [some (vR 149), some (vI m), i, u, v] [] (T0 n) σ K) → (ltA (σ 154) k i = false → K (some (vI (-1))) (T0 n) σ) → Rn 206 19 [some (vR 149), some (vI m), some (vI i), u, v] [] (T0 n) σ K := by
  intro k
  induction k with
  | zero =>
    intro i u v hi i0 h1 h2
    have := h1 rfl (some (vI i))
    rw [s206_19]
    simp only [s206_20, s206_21, sx_push, tf, List.length_cons, List.length_nil, Option.some.injEq, exists_eq_left', Nat.reduceAdd, Nat.reduceLeDiff, true_and, and_true, true_or, or_true, Int.zero_add, Nat.zero_le, eq_self, ne_eq, not_true_eq_false, not_false_eq_true, false_implies, true_implies, implies_true, b2i_0, b2i_1, b2i_01, up_sc, sc_at, sc_sc, ite_true, ite_false, if_true, if_false, Nat.reduceEqDiff, reduceIte]
    repeat' (first | intro _ | refine And.intro ?_ ?_)
    all_goals first | omega | exact this
  | succ k ih =>
    intro i u v hi i0 h1 h2
    rw [s206_19]
    unfold ltA at h1 h2
    by_cases e : 97 ≤ σ 154 i ∧ σ 154 i ≤ 122
    · simp only [if_pos e] at h1 h2
      have main := ih (i + 1) u v (by omega) (by omega) h1 h2
      simp only [s206_20, s206_21, s206_24, s206_25, s206_28, s206_29, s206_30, s206_32, s206_34, s206_37, s206_40, s206_41, s206_42, s206_45, sx_push, tf, List.length_cons, List.length_nil, Option.some.injEq, exists_eq_left', Nat.reduceAdd, Nat.reduceLeDiff, true_and, and_true, true_or, or_true, Int.zero_add, Nat.zero_le, eq_self, ne_eq, not_true_eq_false, not_false_eq_true, false_implies, true_implies, implies_true, b2i_0, b2i_1, b2i_01, up_sc, sc_at, sc_sc, ite_true, ite_false, if_true, if_false, Nat.reduceEqDiff, reduceIte, x185]
      repeat' (first | intro _ | refine And.intro ?_ ?_)
      all_goals first | omega | exact main
    · simp only [if_neg e] at h1 h2
      have := h2 trivial
      simp only [s206_20, s206_21, s206_24, s206_25, s206_28, s206_29, s206_30, s206_32, s206_34, s206_37, s206_40, s206_41, s206_42, s206_45, sx_push, tf, List.length_cons, List.length_nil, Option.some.injEq, exists_eq_left', Nat.reduceAdd, Nat.reduceLeDiff, true_and, and_true, true_or, or_true, Int.zero_add, Nat.zero_le, eq_self, ne_eq, not_true_eq_false, not_false_eq_true, false_implies, true_implies, implies_true, b2i_0, b2i_1, b2i_01, up_sc, sc_at, sc_sc, ite_true, ite_false, if_true, if_false, Nat.reduceEqDiff, reduceIte, x185]
      repeat' (first | intro _ | refine And.intro ?_ ?_)
      all_goals first | omega | exact this
theorem x206i {m p : Int} (hm : m ≤ 6) (p0 : 0 ≤ p) (p1 : p < 40) (ht : ∀ j, 0 ≤ j → j < m → 97 ≤ σ 154 j ∧ σ 154 j ≤ 122) : ∀ (k : Nat) (i : Int) (b : Bool), i + k = 6 → 0 ≤ i → Rn 206 139 [some (vR 149), some (vI m), some (vI p), some (vI (b2i ((b && eqJ (σ 150) (σ 154) m p k i) = true))), some (vI 6)] [] (T0 n) σ K → Rn 206 77 [some (vR 149), some (vI m), some (vI p), some (vI (b2i (b = true))), some (vI i)] [] (T0 n) σ K := by
  intro k
  induction k with
  | zero =>
    intro i b hi i0 hK
    obtain rfl : i = 6 := by omega
    unfold eqJ at hK
    rw [Bool.and_true] at hK
    rw [s206_77]
    simp only [s206_79, s206_81, sx_push, tf, List.length_cons, List.length_nil, Option.some.injEq, exists_eq_left', Nat.reduceAdd, Nat.reduceLeDiff, true_and, and_true, true_or, or_true, Int.zero_add, Nat.zero_le, eq_self, ne_eq, not_true_eq_false, not_false_eq_true, false_implies, true_implies, implies_true, b2i_0, b2i_1, b2i_01, up_sc, sc_at, sc_sc, ite_true, ite_false, if_true, if_false, Nat.reduceEqDiff, reduceIte]
    repeat' (first | intro _ | refine And.intro ?_ ?_)
    all_goals first | omega | exact hK
  | succ k ih =>
    intro i b hi i0 hK
    rw [s206_77]
    unfold eqJ at hK
    cases b with
    | false =>
      have := ih (i + 1) false (by omega) (by omega) (by simpa using hK)
      rw [b2i_f (by decide)] at this ⊢
      simp only [s206_79, s206_81, s206_84, s206_85, s206_131, s206_132, s206_133, s206_136, Int.reduceToNat, Int.reducePow, Nat.reducePow, Int.reduceLE, Int.reduceLT, Int.reduceNeg, Int.reduceEq, Int.reduceNe, Int.reduceAdd, Int.reduceSub, Int.reduceMul, and_self, sx_push, tf, List.length_cons, List.length_nil, Option.some.injEq, exists_eq_left', Nat.reduceAdd, Nat.reduceLeDiff, true_and, and_true, true_or, or_true, Int.zero_add, Nat.zero_le, eq_self, ne_eq, not_true_eq_false, not_false_eq_true, false_implies, true_implies, implies_true, b2i_0, b2i_1, b2i_01, up_sc, sc_at, sc_sc, ite_true, ite_false, if_true, if_false, Nat.reduceEqDiff, reduceIte]
      repeat' (first | intro _ | refine And.intro ?_ ?_)
      all_goals first | omega | exact this
    | true =>
      rw [b2i_t rfl]
      by_cases e : σ 150 (240 + 6 * p + i) = dgT (σ 154) m i
      · rw [if_pos e] at hK
        have := ih (i + 1) true (by omega) (by omega) hK
        rw [b2i_t rfl] at this
        unfold dgT at e
        by_cases e2 : i < m
        · rw [if_pos e2] at e
          have := ht i i0 e2
          simp only [s206_79, s206_81, s206_84, s206_85, s206_88, s206_89, s206_92, s206_95, s206_97, s206_98, s206_99, s206_100, s206_102, s206_103, s206_104, s206_106, s206_107, s206_110, s206_111, s206_114, s206_116, s206_117, s206_119, s206_120, s206_123, s206_124, s206_127, s206_128, s206_131, s206_132, s206_133, s206_136, Int.reduceToNat, Int.reducePow, Nat.reducePow, Int.reduceLE, Int.reduceLT, Int.reduceNeg, Int.reduceEq, Int.reduceNe, Int.reduceAdd, Int.reduceSub, Int.reduceMul, and_self, sx_push, tf, List.length_cons, List.length_nil, Option.some.injEq, exists_eq_left', Nat.reduceAdd, Nat.reduceLeDiff, true_and, and_true, true_or, or_true, Int.zero_add, Nat.zero_le, eq_self, ne_eq, not_true_eq_false, not_false_eq_true, false_implies, true_implies, implies_true, b2i_0, b2i_1, b2i_01, up_sc, sc_at, sc_sc, ite_true, ite_false, if_true, if_false, Nat.reduceEqDiff, reduceIte]
          repeat' (first | intro _ | refine And.intro ?_ ?_)
          all_goals first | omega | assumption
        · rw [if_neg e2] at e
          simp only [s206_79, s206_81, s206_84, s206_85, s206_88, s206_89, s206_92, s206_95, s206_97, s206_98, s206_99, s206_100, s206_102, s206_103, s206_104, s206_106, s206_107, s206_110, s206_111, s206_114, s206_116, s206_117, s206_119, s206_120, s206_123, s206_124, s206_127, s206_128, s206_131, s206_132, s206_133, s206_136, Int.reduceToNat, Int.reducePow, Nat.reducePow, Int.reduceLE, Int.reduceLT, Int.reduceNeg, Int.reduceEq, Int.reduceNe, Int.reduceAdd, Int.reduceSub, Int.reduceMul, and_self, sx_push, tf, List.length_cons, List.length_nil, Option.some.injEq, exists_eq_left', Nat.reduceAdd, Nat.reduceLeDiff, true_and, and_true, true_or, or_true, Int.zero_add, Nat.zero_le, eq_self, ne_eq, not_true_eq_false, not_false_eq_true, false_implies, true_implies, implies_true, b2i_0, b2i_1, b2i_01, up_sc, sc_at, sc_sc, ite_true, ite_false, if_true, if_false, Nat.reduceEqDiff, reduceIte]
          repeat' (first | intro _ | refine And.intro ?_ ?_)
          all_goals first | omega | assumption
      · rw [if_neg e] at hK
        have := ih (i + 1) false (by omega) (by omega) (by simpa using hK)
        rw [b2i_f (by decide)] at this
        unfold dgT at e
        by_cases e2 : i < m
        · rw [if_pos e2] at e
          have := ht i i0 e2
          simp only [s206_79, s206_81, s206_84, s206_85, s206_88, s206_89, s206_92, s206_95, s206_97, s206_98, s206_99, s206_100, s206_102, s206_103, s206_104, s206_106, s206_107, s206_110, s206_111, s206_114, s206_116, s206_117, s206_119, s206_120, s206_123, s206_124, s206_127, s206_128, s206_131, s206_132, s206_133, s206_136, Int.reduceToNat, Int.reducePow, Nat.reducePow, Int.reduceLE, Int.reduceLT, Int.reduceNeg, Int.reduceEq, Int.reduceNe, Int.reduceAdd, Int.reduceSub, Int.reduceMul, and_self, sx_push, tf, List.length_cons, List.length_nil, Option.some.injEq, exists_eq_left', Nat.reduceAdd, Nat.reduceLeDiff, true_and, and_true, true_or, or_true, Int.zero_add, Nat.zero_le, eq_self, ne_eq, not_true_eq_false, not_false_eq_true, false_implies, true_implies, implies_true, b2i_0, b2i_1, b2i_01, up_sc, sc_at, sc_sc, ite_true, ite_false, if_true, if_false, Nat.reduceEqDiff, reduceIte]
          repeat' (first | intro _ | refine And.intro ?_ ?_)
          all_goals first | omega | assumption
        · rw [if_neg e2] at e
          simp only [s206_79, s206_81, s206_84, s206_85, s206_88, s206_89, s206_92, s206_95, s206_97, s206_98, s206_99, s206_100, s206_102, s206_103, s206_104, s206_106, s206_107, s206_110, s206_111, s206_114, s206_116, s206_117, s206_119, s206_120, s206_123, s206_124, s206_127, s206_128, s206_131, s206_132, s206_133, s206_136, Int.reduceToNat, Int.reducePow, Nat.reducePow, Int.reduceLE, Int.reduceLT, Int.reduceNeg, Int.reduceEq, Int.reduceNe, Int.reduceAdd, Int.reduceSub, Int.reduceMul, and_self, sx_push, tf, List.length_cons, List.length_nil, Option.some.injEq, exists_eq_left', Nat.reduceAdd, Nat.reduceLeDiff, true_and, and_true, true_or, or_true, Int.zero_add, Nat.zero_le, eq_self, ne_eq, not_true_eq_false, not_false_eq_true, false_implies, true_implies, implies_true, b2i_0, b2i_1, b2i_01, up_sc, sc_at, sc_sc, ite_true, ite_false, if_true, if_false, Nat.reduceEqDiff, reduceIte]
          repeat' (first | intro _ | refine And.intro ?_ ?_)
          all_goals first | omega | assumption
theorem x206l (h01 : th01 (σ 150)) (hl : ltr (σ 150)) {m : Int} (hm : m ≤ 6) (ht : ∀ j, 0 ≤ j → j < m → 97 ≤ σ 154 j ∧ σ 154 j ≤ 122) : ∀ (k : Nat) (p : Int) (u v : Option sxV), p + k = 40 → 0 ≤ p → K (some (vI (fnd (fun p => decide (σ 150 p = 1 ∧ nmF (σ 150) p = nmD (σ 154) m)) k p))) (T0 n) σ → Rn 206 50 [some (vR 149), some (vI m), some (vI p), u, v] [] (T0 n) σ K := by
  intro k
  induction k with
  | zero =>
    intro p u v hp p0 hK
    rw [s206_50]
    simp only [s206_51, s206_53, s206_151, s206_152, sx_push, tf, List.length_cons, List.length_nil, Option.some.injEq, exists_eq_left', Nat.reduceAdd, Nat.reduceLeDiff, true_and, and_true, true_or, or_true, Int.zero_add, Nat.zero_le, eq_self, ne_eq, not_true_eq_false, not_false_eq_true, false_implies, true_implies, implies_true, b2i_0, b2i_1, b2i_01, up_sc, sc_at, sc_sc, ite_true, ite_false, if_true, if_false, Nat.reduceEqDiff, reduceIte]
    repeat' (first | intro _ | refine And.intro ?_ ?_)
    all_goals first | omega | exact hK
  | succ k ih =>
    intro p u v hp p0 hK
    have p1 : p < 40 := by omega
    rw [s206_50]
    unfold fnd at hK
    simp only [decide_eq_true_eq] at hK
    have q := eq6 (t := σ 154) hl p0 p1 hm ht
    rcases h01 p p0 p1 with e | e
    · rw [if_neg (by omega)] at hK
      have main : Rn 206 139 [some (vR 149), some (vI m), some (vI p), some (vI (b2i ((false && eqJ (σ 150) (σ 154) m p 6 0) = true))), some (vI 6)] [] (T0 n) σ K := by
        rw [Bool.false_and, b2i_f (by decide)]
        simp only [s206_139, s206_140, s206_145, s206_148, Int.reduceToNat, Int.reducePow, Nat.reducePow, Int.reduceLE, Int.reduceLT, Int.reduceNeg, Int.reduceEq, Int.reduceNe, Int.reduceAdd, Int.reduceSub, Int.reduceMul, and_self, sx_push, tf, List.length_cons, List.length_nil, Option.some.injEq, exists_eq_left', Nat.reduceAdd, Nat.reduceLeDiff, true_and, and_true, true_or, or_true, Int.zero_add, Nat.zero_le, eq_self, ne_eq, not_true_eq_false, not_false_eq_true, false_implies, true_implies, implies_true, b2i_0, b2i_1, b2i_01, up_sc, sc_at, sc_sc, ite_true, ite_false, if_true, if_false, Nat.reduceEqDiff, reduceIte]
        repeat' (first | intro _ | refine And.intro ?_ ?_)
        all_goals first | omega | exact ih _ _ _ (by omega) (by omega) hK
      have := x206i hm p0 p1 ht 6 0 false (by omega) (by omega) main
      rw [b2i_f (by decide)] at this
      simp only [s206_51, s206_53, s206_56, s206_57, s206_60, s206_61, s206_62, s206_63, s206_64, s206_65, s206_68, s206_69, s206_72, s206_73, s206_74, s206_75, Int.reduceToNat, Int.reducePow, Nat.reducePow, Int.reduceLE, Int.reduceLT, Int.reduceNeg, Int.reduceEq, Int.reduceNe, Int.reduceAdd, Int.reduceSub, Int.reduceMul, and_self, sx_push, tf, List.length_cons, List.length_nil, Option.some.injEq, exists_eq_left', Nat.reduceAdd, Nat.reduceLeDiff, true_and, and_true, true_or, or_true, Int.zero_add, Nat.zero_le, eq_self, ne_eq, not_true_eq_false, not_false_eq_true, false_implies, true_implies, implies_true, b2i_0, b2i_1, b2i_01, up_sc, sc_at, sc_sc, ite_true, ite_false, if_true, if_false, Nat.reduceEqDiff, reduceIte, e]
      repeat' (first | intro _ | refine And.intro ?_ ?_)
      all_goals first | omega | contradiction | exact this
    · have main : Rn 206 139 [some (vR 149), some (vI m), some (vI p), some (vI (b2i ((true && eqJ (σ 150) (σ 154) m p 6 0) = true))), some (vI 6)] [] (T0 n) σ K := by
        rw [Bool.true_and]
        by_cases e2 : eqJ (σ 150) (σ 154) m p 6 0 = true
        · rw [if_pos ⟨e, q.mp e2⟩] at hK
          rw [b2i_t e2]
          simp only [s206_139, s206_140, s206_143, s206_144, Int.reduceToNat, Int.reducePow, Nat.reducePow, Int.reduceLE, Int.reduceLT, Int.reduceNeg, Int.reduceEq, Int.reduceNe, Int.reduceAdd, Int.reduceSub, Int.reduceMul, and_self, sx_push, tf, List.length_cons, List.length_nil, Option.some.injEq, exists_eq_left', Nat.reduceAdd, Nat.reduceLeDiff, true_and, and_true, true_or, or_true, Int.zero_add, Nat.zero_le, eq_self, ne_eq, not_true_eq_false, not_false_eq_true, false_implies, true_implies, implies_true, b2i_0, b2i_1, b2i_01, up_sc, sc_at, sc_sc, ite_true, ite_false, if_true, if_false, Nat.reduceEqDiff, reduceIte]
          repeat' (first | intro _ | refine And.intro ?_ ?_)
          all_goals first | omega | contradiction | exact hK
        · rw [if_neg (fun z => e2 (q.mpr z.2))] at hK
          rw [b2i_f e2]
          simp only [s206_139, s206_140, s206_143, s206_144, s206_145, s206_148, Int.reduceToNat, Int.reducePow, Nat.reducePow, Int.reduceLE, Int.reduceLT, Int.reduceNeg, Int.reduceEq, Int.reduceNe, Int.reduceAdd, Int.reduceSub, Int.reduceMul, and_self, sx_push, tf, List.length_cons, List.length_nil, Option.some.injEq, exists_eq_left', Nat.reduceAdd, Nat.reduceLeDiff, true_and, and_true, true_or, or_true, Int.zero_add, Nat.zero_le, eq_self, ne_eq, not_true_eq_false, not_false_eq_true, false_implies, true_implies, implies_true, b2i_0, b2i_1, b2i_01, up_sc, sc_at, sc_sc, ite_true, ite_false, if_true, if_false, Nat.reduceEqDiff, reduceIte]
          repeat' (first | intro _ | refine And.intro ?_ ?_)
          all_goals first | omega | contradiction | exact ih _ _ _ (by omega) (by omega) hK
      have := x206i hm p0 p1 ht 6 0 true (by omega) (by omega) main
      rw [b2i_t rfl] at this
      simp only [s206_51, s206_53, s206_56, s206_57, s206_60, s206_61, s206_62, s206_63, s206_64, s206_65, s206_68, s206_69, s206_72, s206_73, s206_74, s206_75, Int.reduceToNat, Int.reducePow, Nat.reducePow, Int.reduceLE, Int.reduceLT, Int.reduceNeg, Int.reduceEq, Int.reduceNe, Int.reduceAdd, Int.reduceSub, Int.reduceMul, and_self, sx_push, tf, List.length_cons, List.length_nil, Option.some.injEq, exists_eq_left', Nat.reduceAdd, Nat.reduceLeDiff, true_and, and_true, true_or, or_true, Int.zero_add, Nat.zero_le, eq_self, ne_eq, not_true_eq_false, not_false_eq_true, false_implies, true_implies, implies_true, b2i_0, b2i_1, b2i_01, up_sc, sc_at, sc_sc, ite_true, ite_false, if_true, if_false, Nat.reduceEqDiff, reduceIte, e]
      repeat' (first | intro _ | refine And.intro ?_ ?_)
      all_goals first | omega | contradiction | exact this
theorem x206 (hO : rowOk (σ 150)) (h0 : 0 ≤ σ 149 8 ∧ σ 149 8 ≤ 1600) : Rn 206 0 [some (vR 149), none, none, none, none] [] (T0 n) σ K ↔ K (some (vI (namS (σ 150) (σ 154) (σ 149 8)))) (T0 n) (sc σ 149 (up1 (σ 149) 8 0)) := by
  refine Rn_iff fun K hK => ?_
  unfold namS at hK
  have g150 : sc σ 149 (up1 (σ 149) 8 0) 150 = σ 150 := by simp [sc_at]
  have g154 : sc σ 149 (up1 (σ 149) 8 0) 154 = σ 154 := by simp [sc_at]
  by_cases e : 1 ≤ σ 149 8 ∧ σ 149 8 ≤ 6
  · have main : Rn 206 19 [some (vR 149), some (vI (σ 149 8)), some (vI 0), none, none] [] (T0 n) (sc σ 149 (up1 (σ 149) 8 0)) K := by
      refine x206a e.2 (σ 149 8).toNat 0 _ _ (by omega) (by omega) (fun h i => ?_) (fun h => ?_)
      · rw [g154] at h
        rw [if_pos ⟨e, h⟩] at hK
        cases i with
        | none => simp only [s206_48, s206_49, sx_push, tf, List.length_cons, List.length_nil, Option.some.injEq, exists_eq_left', Nat.reduceAdd, Nat.reduceLeDiff, true_and, and_true, true_or, or_true, Int.zero_add, Nat.zero_le, eq_self, ne_eq, not_true_eq_false, not_false_eq_true, false_implies, true_implies, implies_true, b2i_0, b2i_1, b2i_01, up_sc, sc_at, sc_sc, ite_true, ite_false, if_true, if_false, Nat.reduceEqDiff, reduceIte]; exact x206l (by rw [g150]; exact hO.1.1) (by rw [g150]; exact hO.2.2.1) e.2 (by rw [g154]; exact fun j a b => ltA_at _ 0 h j a (by omega)) 40 0 _ _ (by omega) (by omega) (by rw [g150, g154]; exact hK)
        | some i => simp only [s206_48, s206_49, sx_push, tf, List.length_cons, List.length_nil, Option.some.injEq, exists_eq_left', Nat.reduceAdd, Nat.reduceLeDiff, true_and, and_true, true_or, or_true, Int.zero_add, Nat.zero_le, eq_self, ne_eq, not_true_eq_false, not_false_eq_true, false_implies, true_implies, implies_true, b2i_0, b2i_1, b2i_01, up_sc, sc_at, sc_sc, ite_true, ite_false, if_true, if_false, Nat.reduceEqDiff, reduceIte]; exact x206l (by rw [g150]; exact hO.1.1) (by rw [g150]; exact hO.2.2.1) e.2 (by rw [g154]; exact fun j a b => ltA_at _ 0 h j a (by omega)) 40 0 _ _ (by omega) (by omega) (by rw [g150, g154]; exact hK)
      · rw [g154] at h
        rw [if_neg (fun z => by rw [h] at z; exact absurd z.2 (by decide))] at hK
        exact hK
    simp only [s206_0, s206_1, s206_4, s206_5, s206_6, s206_7, s206_9, s206_12, s206_15, s206_16, s206_17, s206_18, sx_push, tf, List.length_cons, List.length_nil, Option.some.injEq, exists_eq_left', Nat.reduceAdd, Nat.reduceLeDiff, true_and, and_true, true_or, or_true, Int.zero_add, Nat.zero_le, eq_self, ne_eq, not_true_eq_false, not_false_eq_true, false_implies, true_implies, implies_true, b2i_0, b2i_1, b2i_01, up_sc, sc_at, sc_sc, ite_true, ite_false, if_true, if_false, Nat.reduceEqDiff, reduceIte, x174, x185]
    repeat' (first | intro _ | refine And.intro ?_ ?_)
    all_goals first | omega | exact main
  · rw [if_neg (fun z => e z.1)] at hK
    simp only [s206_0, s206_1, s206_4, s206_5, s206_6, s206_7, s206_9, s206_12, s206_15, s206_16, sx_push, tf, List.length_cons, List.length_nil, Option.some.injEq, exists_eq_left', Nat.reduceAdd, Nat.reduceLeDiff, true_and, and_true, true_or, or_true, Int.zero_add, Nat.zero_le, eq_self, ne_eq, not_true_eq_false, not_false_eq_true, false_implies, true_implies, implies_true, b2i_0, b2i_1, b2i_01, up_sc, sc_at, sc_sc, ite_true, ite_false, if_true, if_false, Nat.reduceEqDiff, reduceIte, x174, x185]
    repeat' (first | intro _ | refine And.intro ?_ ?_)
    all_goals first | omega | exact hK
theorem nmD_in {t : Int → Int} {m : Int} (m1 : 1 ≤ m) (ht : ∀ j, 0 ≤ j → j < m → 97 ≤ t j ∧ t j ≤ 122) : nmD t m ≠ -1 := by
  have dg : ∀ i, 0 ≤ i → 0 ≤ dgT t m i := fun i i0 => by
    unfold dgT
    split
    · have := ht i i0 (by omega); omega
    · omega
  have d0 := dg 0 (by omega)
  have d1 := dg 1 (by omega)
  have d2' := dg 2 (by omega)
  have d3 := dg 3 (by omega)
  have d4 := dg 4 (by omega)
  have d5 := dg 5 (by omega)
  unfold nmD
  omega
theorem cl6 : call2 n c 50 206 [some (vR 1), none] [some (vR 149), none, none, none, none] := fun σ h => by
  have h' := h
  obtain ⟨hP, hO, hM, hH, hT, hR, hS, hF, hQ, hV, hI, hG, hW⟩ := h'
  obtain ⟨t1, t2, t3⟩ := hT
  have x50 : ∀ K : Option sxV → sxT → sxS → Prop, K (some (vI (namS (σ 150) (σ 154) (σ 149 8)))) (T0 n) (sc σ 2 (up1 (σ 2) 1 0)) → Rn 50 0 [some (vR 1), none] [] (T0 n) σ K := fun K hK => by
    unfold namS at hK
    have x51' := fun K => x51 (n := n) (σ := σ) (K := K) (t := σ 154) (by omega) (fun j a b => (t3 j a (by omega)).1)
    rw [t1] at x51'
    by_cases e : (1 ≤ σ 149 8 ∧ σ 149 8 ≤ 6) ∧ ltA (σ 154) (σ 149 8).toNat 0 = true
    · rw [if_pos e] at hK
      simp only [if_pos e] at x51'
      have nd := nmD_in (t := σ 154) e.1.1 (fun j a b => ltA_at _ 0 e.2 j a (by omega))
      have hP2 : PT (sc σ 2 (up1 (σ 2) 1 0)) 7 (σ 150) := PT_cells (fun k k1 k2 => by rw [sc_at, if_neg (by omega)]) hP
      have x52' : Rn 52 2 [some (vR 7), some (vI (nmD (σ 154) (σ 149 8))), some (vI 0)] [] (T0 n) (sc σ 2 (up1 (σ 2) 1 0)) (fun r T' σ' => Rn 50 33 [some (vR 1), some (vI (nmD (σ 154) (σ 149 8)))] (sx_push r []) T' σ' K) := by
        refine x52l hP2.1.1 hP2.2.2 40 0 (by omega) (by omega) ?_
        simp only [s50_33, sx_push, tf, List.length_cons, List.length_nil, Option.some.injEq, exists_eq_left', Nat.reduceAdd, Nat.reduceLeDiff, true_and, and_true, true_or, or_true, Int.zero_add, Nat.zero_le, eq_self, ne_eq, not_true_eq_false, not_false_eq_true, false_implies, true_implies, implies_true, b2i_0, b2i_1, b2i_01, up_sc, sc_at, sc_sc, ite_true, ite_false, if_true, if_false, Nat.reduceEqDiff, reduceIte]
        exact hK
      simp only [s50_0, s50_1, s50_4, s50_7, s50_8, s50_9, s50_12, s50_13, s50_16, s50_17, s50_18, s50_21, s50_22, s50_25, s50_26, s50_29, s50_30, sx_push, tf, List.length_cons, List.length_nil, Option.some.injEq, exists_eq_left', Nat.reduceAdd, Nat.reduceLeDiff, true_and, and_true, true_or, or_true, Int.zero_add, Nat.zero_le, eq_self, ne_eq, not_true_eq_false, not_false_eq_true, false_implies, true_implies, implies_true, b2i_0, b2i_1, b2i_01, up_sc, sc_at, sc_sc, ite_true, ite_false, if_true, if_false, Nat.reduceEqDiff, reduceIte, x51']
      simp only [s52_0, s52_1, sx_push, tf, List.length_cons, List.length_nil, Option.some.injEq, exists_eq_left', Nat.reduceAdd, Nat.reduceLeDiff, true_and, and_true, true_or, or_true, Int.zero_add, Nat.zero_le, eq_self, ne_eq, not_true_eq_false, not_false_eq_true, false_implies, true_implies, implies_true, b2i_0, b2i_1, b2i_01, up_sc, sc_at, sc_sc, ite_true, ite_false, if_true, if_false, Nat.reduceEqDiff, reduceIte]
      repeat' (first | intro _ | refine And.intro ?_ ?_)
      all_goals first | omega | contradiction | exact x52'
    · rw [if_neg e] at hK
      simp only [if_neg e] at x51'
      simp only [s50_0, s50_1, s50_4, s50_7, s50_8, s50_9, s50_12, s50_13, s50_16, s50_17, s50_18, s50_21, s50_22, s50_33, sx_push, tf, List.length_cons, List.length_nil, Option.some.injEq, exists_eq_left', Nat.reduceAdd, Nat.reduceLeDiff, true_and, and_true, true_or, or_true, Int.zero_add, Nat.zero_le, eq_self, ne_eq, not_true_eq_false, not_false_eq_true, false_implies, true_implies, implies_true, b2i_0, b2i_1, b2i_01, up_sc, sc_at, sc_sc, ite_true, ite_false, if_true, if_false, Nat.reduceEqDiff, reduceIte, x51']
      repeat' (first | intro _ | refine And.intro ?_ ?_)
      all_goals first | omega | contradiction | exact hK
  refine x50 _ ⟨rfl, _, rfl, ?_⟩
  have g150 : sc σ 2 (up1 (σ 2) 1 0) 150 = σ 150 := by simp [sc_at]
  have g154 : sc σ 2 (up1 (σ 2) 1 0) 154 = σ 154 := by simp [sc_at]
  have g149 : sc σ 2 (up1 (σ 2) 1 0) 149 = σ 149 := by simp [sc_at]
  rw [x206 (by rw [g150]; exact hO) (by rw [g149]; exact t2), g150, g154, g149]
  exact ⟨rfl, rfl, Rel_tp h (by omega), by simp [sc_at]⟩
end NM
