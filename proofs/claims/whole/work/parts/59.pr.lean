/-! pairs: the closest, the widest -/
/-- a pair as one number -/
def pkP (p q d : Int) : Int := 4096 * d + 64 * p + q
theorem sx_and63 {a : Int} (h0 : 0 ≤ a) (h1 : a < 2147483648) : sx_and a 63 = a % 64 := by
  obtain ⟨x, rfl⟩ := Int.eq_ofNat_of_zero_le h0
  rw [show (63 : Int) = ((63 : Nat) : Int) from rfl, sx_andN (by omega) (by omega), show (63 : Nat) = 2 ^ 6 - 1 from rfl, Nat.and_two_pow_sub_one_eq_mod]
  omega
theorem pkP_or {p q d : Int} (p0 : 0 ≤ p) (p1 : p < 64) (q0 : 0 ≤ q) (q1 : q < 64) (d0 : 0 ≤ d) (d1 : d ≤ 100000) : sx_or (sx_or (d * 4096) (p * 64)) q = pkP p q d := by
  obtain ⟨x, rfl⟩ := Int.eq_ofNat_of_zero_le d0
  obtain ⟨y, rfl⟩ := Int.eq_ofNat_of_zero_le p0
  obtain ⟨z, rfl⟩ := Int.eq_ofNat_of_zero_le q0
  unfold pkP
  rw [show (x : Int) * 4096 = ((2 ^ 12 * x : Nat) : Int) by omega, show (y : Int) * 64 = ((2 ^ 6 * y : Nat) : Int) by omega]
  rw [sx_orN (by omega) (by omega), ← Nat.two_pow_add_eq_or_of_lt (by omega), show 2 ^ 12 * x + 2 ^ 6 * y = 2 ^ 6 * (64 * x + y) by omega, sx_orN (by omega) (by omega), ← Nat.two_pow_add_eq_or_of_lt (by omega)]
  omega
def prI (f : Int → Int) (d : Int → Int → Int) (wd a : Int) : Nat → Int → Int → Int → Int × Int
  | 0, _, o, t => (o, t)
  | k + 1, b, o, t => if (f a = 1 ∧ f b = 1) ∧ (o = -1 ∨ (wd = 0 ∧ d a b < d o t) ∨ (wd ≠ 0 ∧ d o t < d a b)) then prI f d wd a k (b + 1) a b else prI f d wd a k (b + 1) o t
def prO (f : Int → Int) (d : Int → Int → Int) (wd : Int) : Nat → Int → Int → Int → Int × Int
  | 0, _, o, t => (o, t)
  | k + 1, a, o, t => prO f d wd k (a + 1) (prI f d wd a k (a + 1) o t).1 (prI f d wd a k (a + 1) o t).2
/-- the pair found ahead of (a, b) -/
def oT (f : Int → Int) (a b o t : Int) : Prop := (o = -1 ∧ t = -1) ∨ ((0 ≤ o ∧ o < t ∧ t < 40) ∧ (f o = 1 ∧ f t = 1) ∧ (o < a ∨ (o = a ∧ t < b)))
theorem prI_ye {f : Int → Int} {d : Int → Int → Int} {wd a b o t : Int} {k : Nat} (h : (f a = 1 ∧ f b = 1) ∧ (o = -1 ∨ (wd = 0 ∧ d a b < d o t) ∨ (wd ≠ 0 ∧ d o t < d a b))) : prI f d wd a (k + 1) b o t = prI f d wd a k (b + 1) a b := if_pos h
theorem prI_no {f : Int → Int} {d : Int → Int → Int} {wd a b o t : Int} {k : Nat} (h : ¬ ((f a = 1 ∧ f b = 1) ∧ (o = -1 ∨ (wd = 0 ∧ d a b < d o t) ∨ (wd ≠ 0 ∧ d o t < d a b)))) : prI f d wd a (k + 1) b o t = prI f d wd a k (b + 1) o t := if_neg h
theorem prI_in {f : Int → Int} {d : Int → Int → Int} {wd a : Int} (a0 : 0 ≤ a) : ∀ (k : Nat) (b o t : Int), b + k = 40 → a < b → oT f a b o t → oT f (a + 1) (a + 1 + 1) (prI f d wd a k b o t).1 (prI f d wd a k b o t).2 := by
  intro k
  induction k with
  | zero =>
    intro b o t hb ab h
    rcases h with z | ⟨z1, z2, z3⟩
    · exact Or.inl z
    · exact Or.inr ⟨z1, z2, Or.inl (by show o < a + 1; omega)⟩
  | succ k ih =>
    intro b o t hb ab h
    unfold prI
    split
    · rename_i e
      exact ih (b + 1) a b (by omega) (by omega) (Or.inr ⟨⟨a0, ab, by omega⟩, e.1, Or.inr ⟨rfl, by omega⟩⟩)
    · refine ih (b + 1) o t (by omega) (by omega) ?_
      rcases h with z | ⟨z1, z2, z3⟩
      · exact Or.inl z
      · exact Or.inr ⟨z1, z2, by omega⟩
theorem prO_in {f : Int → Int} {d : Int → Int → Int} {wd : Int} : ∀ (k : Nat) (a o t : Int), a + k = 40 → 0 ≤ a → oT f a (a + 1) o t → oT f 40 41 (prO f d wd k a o t).1 (prO f d wd k a o t).2 := by
  intro k
  induction k with
  | zero =>
    intro a o t ha a0 h
    obtain rfl : a = 40 := by omega
    exact h
  | succ k ih =>
    intro a o t ha a0 h
    unfold prO
    have := prI_in (d := d) (wd := wd) a0 k (a + 1) o t (by omega) (by omega) h
    generalize prI f d wd a k (a + 1) o t = P at *
    exact ih (a + 1) P.1 P.2 (by omega) (by omega) this
theorem prI_n {f : Int → Int} {d : Int → Int → Int} {wd a : Int} (a0 : 0 ≤ a) : ∀ (k : Nat) (b o t : Int), b + k = 40 → a < b → (prI f d wd a k b o t).1 = -1 → o = -1 ∧ ∀ q, b ≤ q → q < 40 → ¬ (f a = 1 ∧ f q = 1) := by
  intro k
  induction k with
  | zero => intro b o t hb ab h; exact ⟨h, fun q x y => by omega⟩
  | succ k ih =>
    intro b o t hb ab h
    unfold prI at h
    by_cases e : (f a = 1 ∧ f b = 1) ∧ (o = -1 ∨ (wd = 0 ∧ d a b < d o t) ∨ (wd ≠ 0 ∧ d o t < d a b))
    · rw [if_pos e] at h
      have := (ih (b + 1) a b (by omega) (by omega) h).1
      omega
    · rw [if_neg e] at h
      have z := ih (b + 1) o t (by omega) (by omega) h
      refine ⟨z.1, fun q x y => ?_⟩
      by_cases e2 : q = b
      · subst e2; exact fun w => e ⟨w, Or.inl z.1⟩
      · exact z.2 q (by omega) y
theorem prO_n {f : Int → Int} {d : Int → Int → Int} {wd : Int} : ∀ (k : Nat) (a o t : Int), a + k = 40 → 0 ≤ a → (prO f d wd k a o t).1 = -1 → o = -1 ∧ ∀ p q, a ≤ p → p < q → q < 40 → ¬ (f p = 1 ∧ f q = 1) := by
  intro k
  induction k with
  | zero => intro a o t ha a0 h; exact ⟨h, fun p q x y z => by omega⟩
  | succ k ih =>
    intro a o t ha a0 h
    unfold prO at h
    have z := ih (a + 1) _ _ (by omega) (by omega) h
    have z2 := prI_n a0 k (a + 1) o t (by omega) (by omega) z.1
    refine ⟨z2.1, fun p q x y w => ?_⟩
    by_cases e : p = a
    · subst e; exact z2.2 q (by omega) w
    · exact z.2 p q (by omega) y w
theorem cntF_le1 {f : Int → Int} (h01 : th01 f) : ∀ (k : Nat) (p : Int), p + k = 40 → 0 ≤ p → (∀ a b, p ≤ a → a < b → b < 40 → ¬ (f a = 1 ∧ f b = 1)) → cntF f k p 0 ≤ 1 := by
  intro k
  induction k with
  | zero => intro p _ _ _; unfold cntF; omega
  | succ k ih =>
    intro p hp p0 h
    unfold cntF
    rw [cntF_add]
    rcases h01 p p0 (by omega) with e | e
    · have := ih (p + 1) (by omega) (by omega) (fun a b x y z => h a b (by omega) y z)
      omega
    · have : cntF f k (p + 1) 0 = cntF (fun _ => 0) k (p + 1) 0 := cntF_congr k (p + 1) 0 (fun q x y => by
        rcases h01 q (by omega) (by omega) with z | z
        · exact z
        · exact absurd ⟨e, z⟩ (h p q (by omega) (by omega) (by omega)))
      have z0 : ∀ (k : Nat) (p : Int), cntF (fun _ => 0) k p 0 = 0 := by
        intro k
        induction k with
        | zero => intro p; rfl
        | succ k ih => intro p; exact ih (p + 1)
      rw [this, z0]; omega
def pairT (f : Int → Int) (d : Int → Int → Int) (wd : Int) : Int × Int := prO f d wd 40 0 (-1) (-1)
theorem pairT_in {f : Int → Int} (h01 : th01 f) (d : Int → Int → Int) (wd : Int) (h2 : 2 ≤ cntF f 40 0 0) : (0 ≤ (pairT f d wd).1 ∧ (pairT f d wd).1 < (pairT f d wd).2 ∧ (pairT f d wd).2 < 40) ∧ f (pairT f d wd).1 = 1 ∧ f (pairT f d wd).2 = 1 := by
  have h := prO_in (f := f) (d := d) (wd := wd) 40 0 (-1) (-1) (by omega) (by omega) (Or.inl ⟨rfl, rfl⟩)
  have hn : (pairT f d wd).1 ≠ -1 := fun z => by
    have := (prO_n 40 0 (-1) (-1) (by omega) (by omega) z).2
    have := cntF_le1 h01 40 0 (by omega) (by omega) this
    omega
  rcases h with ⟨z, -⟩ | ⟨z1, z2, -⟩
  · exact absurd z hn
  · exact ⟨z1, z2⟩
section PR
variable {n : Nat} {c : Int} {σ : sxS} {K : Option sxV → sxT → sxS → Prop} {f : Int → Int}
theorem x108 {p q d : Int} (p0 : 0 ≤ p) (p1 : p < 64) (q0 : 0 ≤ q) (q1 : q < 64) (d0 : 0 ≤ d) (d1 : d ≤ 100000) : Rn 108 0 [some (vI p), some (vI q), some (vI d)] [] (T0 n) σ K ↔ K (some (vI (pkP (min p q) (max p q) d))) (T0 n) σ := by
  refine Rn_iff fun K hK => ?_
  rw [← pkP_or (by omega) (by omega) (by omega) (by omega) d0 d1] at hK
  simp only [s108_0, s108_1, s108_3, s108_4, s108_5, s108_6, s108_9, s108_11, s108_12, s108_13, s108_14, s108_15, s108_18, s108_19, Int.reduceToNat, Int.reducePow, Nat.reducePow, Int.reduceLE, Int.reduceLT, Int.reduceNeg, Int.reduceEq, Int.reduceNe, Int.reduceAdd, Int.reduceSub, Int.reduceMul, and_self, sx_push, tf, List.length_cons, List.length_nil, Option.some.injEq, exists_eq_left', Nat.reduceAdd, Nat.reduceLeDiff, true_and, and_true, true_or, or_true, Int.zero_add, Nat.zero_le, eq_self, ne_eq, not_true_eq_false, not_false_eq_true, false_implies, true_implies, implies_true, b2i_0, b2i_1, b2i_01, up_sc, sc_at, sc_sc, ite_true, ite_false, if_true, if_false, Nat.reduceEqDiff, reduceIte]
  repeat' (first | intro _ | refine And.intro ?_ ?_)
  all_goals first | exact hK | omega
theorem x110 {p q d w : Int} (p0 : 0 ≤ p) (p1 : p < 64) (q0 : 0 ≤ q) (q1 : q < 64) (d0 : 0 ≤ d) (d1 : d ≤ 100000) : Rn 110 0 [some (vI (pkP p q d)), some (vI w)] [] (T0 n) σ K ↔ K (some (vI (if w = 0 then p else if w = 1 then q else d))) (T0 n) σ := by
  refine Rn_iff fun K hK => ?_
  have a1 : 0 ≤ pkP p q d ∧ pkP p q d < 2147483648 := by unfold pkP; omega
  have e1 : sx_and (pkP p q d / 64) 63 = p := by rw [sx_and63 (by omega) (by omega)]; unfold pkP; omega
  have e2 : sx_and (pkP p q d) 63 = q := by rw [sx_and63 (by omega) (by omega)]; unfold pkP; omega
  have e3 : pkP p q d / 4096 = d := by unfold pkP; omega
  simp only [s110_0, s110_1, s110_28, s110_29, s110_31, s110_32, s110_34, s110_35, s110_36, s110_37, s110_39, s110_40, s110_41, s110_42, s110_44, s110_45, Int.reduceToNat, Int.reducePow, Nat.reducePow, Int.reduceLE, Int.reduceLT, Int.reduceNeg, Int.reduceEq, Int.reduceNe, Int.reduceAdd, Int.reduceSub, Int.reduceMul, and_self, sx_push, tf, List.length_cons, List.length_nil, Option.some.injEq, exists_eq_left', Nat.reduceAdd, Nat.reduceLeDiff, true_and, and_true, true_or, or_true, Int.zero_add, Nat.zero_le, eq_self, ne_eq, not_true_eq_false, not_false_eq_true, false_implies, true_implies, implies_true, b2i_0, b2i_1, b2i_01, up_sc, sc_at, sc_sc, ite_true, ite_false, if_true, if_false, Nat.reduceEqDiff, reduceIte, sx_sw, e1, e2, e3]
  repeat' (first | intro _ | refine And.intro ?_ ?_)
  all_goals first | omega | (rw [if_pos (by omega)] at hK; exact hK) | (rw [if_neg (by omega), if_pos (by omega)] at hK; exact hK) | (rw [if_neg (by omega), if_neg (by omega)] at hK; exact hK)
theorem x107i (hr : rL σ 7 f) (h01 : th01 f) (hw : wfc f) {a : Int} (a0 : 0 ≤ a) (a1 : a < 40) : ∀ (k : Nat) (b o t : Int) (u : Option sxV), b + k = 40 → a < b → oT f a b o t → (∀ u, Rn 107 81 [some (vR 133), some (vI (if (prI f (farO f) 0 a k b o t).1 = -1 then -1 else pkP (prI f (farO f) 0 a k b o t).1 (prI f (farO f) 0 a k b o t).2 (farO f (prI f (farO f) 0 a k b o t).1 (prI f (farO f) 0 a k b o t).2))), some (vI a), some (vI 40), u] [] (T0 n) σ K) → Rn 107 14 [some (vR 133), some (vI (if o = -1 then -1 else pkP o t (farO f o t))), some (vI a), some (vI b), u] [] (T0 n) σ K := by
  intro k
  induction k with
  | zero =>
    intro b o t u hb ab h hK
    obtain rfl : b = 40 := by omega
    rw [s107_14]
    have := hK u
    simp only [s107_15, s107_17, sx_push, tf, List.length_cons, List.length_nil, Option.some.injEq, exists_eq_left', Nat.reduceAdd, Nat.reduceLeDiff, true_and, and_true, true_or, or_true, Int.zero_add, Nat.zero_le, eq_self, ne_eq, not_true_eq_false, not_false_eq_true, false_implies, true_implies, implies_true, b2i_0, b2i_1, b2i_01, up_sc, sc_at, sc_sc, ite_true, ite_false, if_true, if_false, Nat.reduceEqDiff, reduceIte]
    repeat' (first | intro _ | refine And.intro ?_ ?_)
    all_goals first | omega | exact this
  | succ k ih =>
    intro b o t u hb ab h hK
    have b1 : b < 40 := by omega
    rw [s107_14]
    have h' : oT f a (b + 1) o t := by
      rcases h with z | ⟨z1, z2, z3⟩
      · exact Or.inl z
      · exact Or.inr ⟨z1, z2, by omega⟩
    rcases h01 a a0 a1 with e | e
    · rw [prI_no (by omega)] at hK
      simp only [s107_15, s107_17, s107_20, s107_21, s107_24, s107_25, s107_28, s107_75, s107_78, sx_push, tf, List.length_cons, List.length_nil, Option.some.injEq, exists_eq_left', Nat.reduceAdd, Nat.reduceLeDiff, true_and, and_true, true_or, or_true, Int.zero_add, Nat.zero_le, eq_self, ne_eq, not_true_eq_false, not_false_eq_true, false_implies, true_implies, implies_true, b2i_0, b2i_1, b2i_01, up_sc, sc_at, sc_sc, ite_true, ite_false, if_true, if_false, Nat.reduceEqDiff, reduceIte, x49 isP7 hr]
      repeat' (first | intro _ | refine And.intro ?_ ?_)
      all_goals first | omega | exact ih (b + 1) o t _ (by omega) (by omega) h' hK
    · rcases h01 b (by omega) b1 with e2 | e2
      · rw [prI_no (by omega)] at hK
        simp only [s107_15, s107_17, s107_20, s107_21, s107_24, s107_25, s107_28, s107_31, s107_32, s107_35, s107_36, s107_39, s107_75, s107_78, sx_push, tf, List.length_cons, List.length_nil, Option.some.injEq, exists_eq_left', Nat.reduceAdd, Nat.reduceLeDiff, true_and, and_true, true_or, or_true, Int.zero_add, Nat.zero_le, eq_self, ne_eq, not_true_eq_false, not_false_eq_true, false_implies, true_implies, implies_true, b2i_0, b2i_1, b2i_01, up_sc, sc_at, sc_sc, ite_true, ite_false, if_true, if_false, Nat.reduceEqDiff, reduceIte, x49 isP7 hr]
        repeat' (first | intro _ | refine And.intro ?_ ?_)
        all_goals first | omega | exact ih (b + 1) o t _ (by omega) (by omega) h' hK
      · have fo := farO_in hw a0 a1 (show 0 ≤ b by omega) b1
        have x108' := fun K => x108 (n := n) (σ := σ) (K := K) (p := a) (q := b) (d := farO f a b) a0 (by omega) (by omega) (by omega) fo.1 (by omega)
        rw [show min a b = a by omega, show max a b = b by omega] at x108'
        simp only [s107_15, s107_17, s107_20, s107_21, s107_24, s107_25, s107_28, s107_31, s107_32, s107_35, s107_36, s107_39, s107_42, s107_43, s107_44, s107_45, s107_48, s107_49, s107_50, s107_53, s107_56, s107_58, s107_59, s107_60, s107_63, s107_65, s107_68, s107_69, s107_71, s107_74, s107_75, s107_78, sx_push, tf, List.length_cons, List.length_nil, Option.some.injEq, exists_eq_left', Nat.reduceAdd, Nat.reduceLeDiff, true_and, and_true, true_or, or_true, Int.zero_add, Nat.zero_le, eq_self, ne_eq, not_true_eq_false, not_false_eq_true, false_implies, true_implies, implies_true, b2i_0, b2i_1, b2i_01, up_sc, sc_at, sc_sc, ite_true, ite_false, if_true, if_false, Nat.reduceEqDiff, reduceIte, x49 isP7 hr, x62o isP7 hr hw a0 a1 e (show 0 ≤ b by omega) b1 e2, x108']
        have hnew : oT f a (b + 1) a b := Or.inr ⟨⟨a0, ab, b1⟩, ⟨e, e2⟩, Or.inr ⟨rfl, by omega⟩⟩
        have n1 : a ≠ -1 := by omega
        rcases h with ⟨z1, z2⟩ | ⟨z1, z2, z3⟩
        · rw [prI_ye ⟨⟨e, e2⟩, Or.inl z1⟩] at hK
          have go := fun u => ih (b + 1) a b u (by omega) (by omega) hnew hK
          rw [if_neg n1] at go
          rw [if_pos z1]
          repeat' (first | intro _ | refine And.intro ?_ ?_)
          all_goals first | omega | contradiction | exact go _
        · have fo2 := farO_in hw z1.1 (show o < 40 by omega) (show 0 ≤ t by omega) z1.2.2
          rw [if_neg (show ¬ o = -1 by omega)]
          have pn : pkP o t (farO f o t) ≠ -1 := by unfold pkP; omega
          by_cases e3 : farO f a b < farO f o t
          · rw [prI_ye ⟨⟨e, e2⟩, Or.inr (Or.inl ⟨rfl, e3⟩)⟩] at hK
            have go := fun u => ih (b + 1) a b u (by omega) (by omega) hnew hK
            rw [if_neg n1] at go
            have em : min (pkP o t (farO f o t)) (pkP a b (farO f a b)) = pkP a b (farO f a b) := by unfold pkP; omega
            rw [em]
            repeat' (first | intro _ | refine And.intro ?_ ?_)
            all_goals first | omega | contradiction | exact go _
          · rw [prI_no (by omega)] at hK
            have go := fun u => ih (b + 1) o t u (by omega) (by omega) h' hK
            rw [if_neg (show ¬ o = -1 by omega)] at go
            have em : min (pkP o t (farO f o t)) (pkP a b (farO f a b)) = pkP o t (farO f o t) := by unfold pkP; omega
            rw [em]
            repeat' (first | intro _ | refine And.intro ?_ ?_)
            all_goals first | omega | contradiction | exact go _
theorem x107l (hr : rL σ 7 f) (h01 : th01 f) (hw : wfc f) : ∀ (k : Nat) (a o t : Int) (u v : Option sxV), a + k = 40 → 0 ≤ a → oT f a (a + 1) o t → K (some (vI (if (prO f (farO f) 0 k a o t).1 = -1 then -1 else pkP (prO f (farO f) 0 k a o t).1 (prO f (farO f) 0 k a o t).2 (farO f (prO f (farO f) 0 k a o t).1 (prO f (farO f) 0 k a o t).2)))) (T0 n) σ → Rn 107 4 [some (vR 133), some (vI (if o = -1 then -1 else pkP o t (farO f o t))), some (vI a), u, v] [] (T0 n) σ K := by
  intro k
  induction k with
  | zero =>
    intro a o t u v ha a0 h hK
    rw [s107_4]
    unfold prO at hK
    simp only [s107_5, s107_7, s107_87, s107_88, sx_push, tf, List.length_cons, List.length_nil, Option.some.injEq, exists_eq_left', Nat.reduceAdd, Nat.reduceLeDiff, true_and, and_true, true_or, or_true, Int.zero_add, Nat.zero_le, eq_self, ne_eq, not_true_eq_false, not_false_eq_true, false_implies, true_implies, implies_true, b2i_0, b2i_1, b2i_01, up_sc, sc_at, sc_sc, ite_true, ite_false, if_true, if_false, Nat.reduceEqDiff, reduceIte]
    repeat' (first | intro _ | refine And.intro ?_ ?_)
    all_goals first | omega | exact hK
  | succ k ih =>
    intro a o t u v ha a0 h hK
    rw [s107_4]
    unfold prO at hK
    have pin := prI_in (d := farO f) (wd := 0) a0 k (a + 1) o t (by omega) (by omega) h
    have main := fun (K' : ∀ u, Rn 107 81 [some (vR 133), some (vI (if (prI f (farO f) 0 a k (a + 1) o t).1 = -1 then -1 else pkP (prI f (farO f) 0 a k (a + 1) o t).1 (prI f (farO f) 0 a k (a + 1) o t).2 (farO f (prI f (farO f) 0 a k (a + 1) o t).1 (prI f (farO f) 0 a k (a + 1) o t).2))), some (vI a), some (vI 40), u] [] (T0 n) σ K) => x107i hr h01 hw a0 (by omega) k (a + 1) o t v (by omega) (by omega) h K'
    generalize prI f (farO f) 0 a k (a + 1) o t = P at *
    simp only [s107_5, s107_7, s107_10, s107_11, s107_12, s107_13, sx_push, tf, List.length_cons, List.length_nil, Option.some.injEq, exists_eq_left', Nat.reduceAdd, Nat.reduceLeDiff, true_and, and_true, true_or, or_true, Int.zero_add, Nat.zero_le, eq_self, ne_eq, not_true_eq_false, not_false_eq_true, false_implies, true_implies, implies_true, b2i_0, b2i_1, b2i_01, up_sc, sc_at, sc_sc, ite_true, ite_false, if_true, if_false, Nat.reduceEqDiff, reduceIte]
    repeat' (first | intro _ | refine And.intro ?_ ?_)
    all_goals first | omega | skip
    refine main (fun u => ?_)
    simp only [s107_81, s107_84, sx_push, tf, List.length_cons, List.length_nil, Option.some.injEq, exists_eq_left', Nat.reduceAdd, Nat.reduceLeDiff, true_and, and_true, true_or, or_true, Int.zero_add, Nat.zero_le, eq_self, ne_eq, not_true_eq_false, not_false_eq_true, false_implies, true_implies, implies_true, b2i_0, b2i_1, b2i_01, up_sc, sc_at, sc_sc, ite_true, ite_false, if_true, if_false, Nat.reduceEqDiff, reduceIte]
    exact ⟨by omega, ih (a + 1) P.1 P.2 _ _ (by omega) (by omega) pin hK⟩
theorem x107 (hr : rL σ 7 f) (h01 : th01 f) (hw : wfc f) (h2 : 2 ≤ cntF f 40 0 0) : Rn 107 0 [some (vR 133), none, none, none, none] [] (T0 n) σ K ↔ K (some (vI (pkP (pairT f (farO f) 0).1 (pairT f (farO f) 0).2 (farO f (pairT f (farO f) 0).1 (pairT f (farO f) 0).2)))) (T0 n) σ := by
  refine Rn_iff fun K hK => ?_
  have pi := pairT_in h01 (farO f) 0 h2
  have hK2 : K (some (vI (if (prO f (farO f) 0 40 0 (-1) (-1)).1 = -1 then -1 else pkP (prO f (farO f) 0 40 0 (-1) (-1)).1 (prO f (farO f) 0 40 0 (-1) (-1)).2 (farO f (prO f (farO f) 0 40 0 (-1) (-1)).1 (prO f (farO f) 0 40 0 (-1) (-1)).2)))) (T0 n) σ := by
    change K (some (vI (if (pairT f (farO f) 0).1 = -1 then -1 else pkP (pairT f (farO f) 0).1 (pairT f (farO f) 0).2 (farO f (pairT f (farO f) 0).1 (pairT f (farO f) 0).2)))) (T0 n) σ
    rw [if_neg (by omega)]; exact hK
  have := x107l (n := n) hr h01 hw 40 0 (-1) (-1) none none (by omega) (by omega) (Or.inl ⟨rfl, rfl⟩) hK2
  rw [if_pos rfl] at this
  simp only [s107_0, s107_1, s107_2, s107_3, sx_push, tf, List.length_cons, List.length_nil, Option.some.injEq, exists_eq_left', Nat.reduceAdd, Nat.reduceLeDiff, true_and, and_true, true_or, or_true, Int.zero_add, Nat.zero_le, eq_self, ne_eq, not_true_eq_false, not_false_eq_true, false_implies, true_implies, implies_true, b2i_0, b2i_1, b2i_01, up_sc, sc_at, sc_sc, ite_true, ite_false, if_true, if_false, Nat.reduceEqDiff, reduceIte]
  exact this
theorem x109i (hr : rL σ 7 f) (h01 : th01 f) (hw : wfc f) {a : Int} (a0 : 0 ≤ a) (a1 : a < 40) : ∀ (k : Nat) (b o t : Int), b + k = 40 → a < b → oT f a b o t → Rn 109 86 [some (vR 133), some (vI (if (prI f (farO f) 1 a k b o t).1 = -1 then -1 else pkP (prI f (farO f) 1 a k b o t).1 (prI f (farO f) 1 a k b o t).2 (farO f (prI f (farO f) 1 a k b o t).1 (prI f (farO f) 1 a k b o t).2))), some (vI (if (prI f (farO f) 1 a k b o t).1 = -1 then -1 else farO f (prI f (farO f) 1 a k b o t).1 (prI f (farO f) 1 a k b o t).2)), some (vI a), some (vI 40)] [] (T0 n) σ K → Rn 109 17 [some (vR 133), some (vI (if o = -1 then -1 else pkP o t (farO f o t))), some (vI (if o = -1 then -1 else farO f o t)), some (vI a), some (vI b)] [] (T0 n) σ K := by
  intro k
  induction k with
  | zero =>
    intro b o t hb ab h hK
    obtain rfl : b = 40 := by omega
    rw [s109_17]
    simp only [s109_19, s109_21, sx_push, tf, List.length_cons, List.length_nil, Option.some.injEq, exists_eq_left', Nat.reduceAdd, Nat.reduceLeDiff, true_and, and_true, true_or, or_true, Int.zero_add, Nat.zero_le, eq_self, ne_eq, not_true_eq_false, not_false_eq_true, false_implies, true_implies, implies_true, b2i_0, b2i_1, b2i_01, up_sc, sc_at, sc_sc, ite_true, ite_false, if_true, if_false, Nat.reduceEqDiff, reduceIte]
    repeat' (first | intro _ | refine And.intro ?_ ?_)
    all_goals first | omega | exact hK
  | succ k ih =>
    intro b o t hb ab h hK
    have b1 : b < 40 := by omega
    rw [s109_17]
    have h' : oT f a (b + 1) o t := by
      rcases h with z | ⟨z1, z2, z3⟩
      · exact Or.inl z
      · exact Or.inr ⟨z1, z2, by omega⟩
    rcases h01 a a0 a1 with e | e
    · rw [prI_no (by omega)] at hK
      simp only [s109_19, s109_21, s109_24, s109_25, s109_28, s109_29, s109_32, s109_80, s109_83, sx_push, tf, List.length_cons, List.length_nil, Option.some.injEq, exists_eq_left', Nat.reduceAdd, Nat.reduceLeDiff, true_and, and_true, true_or, or_true, Int.zero_add, Nat.zero_le, eq_self, ne_eq, not_true_eq_false, not_false_eq_true, false_implies, true_implies, implies_true, b2i_0, b2i_1, b2i_01, up_sc, sc_at, sc_sc, ite_true, ite_false, if_true, if_false, Nat.reduceEqDiff, reduceIte, x49 isP7 hr]
      repeat' (first | intro _ | refine And.intro ?_ ?_)
      all_goals first | omega | exact ih (b + 1) o t (by omega) (by omega) h' hK
    · rcases h01 b (by omega) b1 with e2 | e2
      · rw [prI_no (by omega)] at hK
        simp only [s109_19, s109_21, s109_24, s109_25, s109_28, s109_29, s109_32, s109_35, s109_36, s109_39, s109_41, s109_44, s109_80, s109_83, sx_push, tf, List.length_cons, List.length_nil, Option.some.injEq, exists_eq_left', Nat.reduceAdd, Nat.reduceLeDiff, true_and, and_true, true_or, or_true, Int.zero_add, Nat.zero_le, eq_self, ne_eq, not_true_eq_false, not_false_eq_true, false_implies, true_implies, implies_true, b2i_0, b2i_1, b2i_01, up_sc, sc_at, sc_sc, ite_true, ite_false, if_true, if_false, Nat.reduceEqDiff, reduceIte, x49 isP7 hr]
        repeat' (first | intro _ | refine And.intro ?_ ?_)
        all_goals first | omega | exact ih (b + 1) o t (by omega) (by omega) h' hK
      · have fo := farO_in hw a0 a1 (show 0 ≤ b by omega) b1
        have x108' := fun K => x108 (n := n) (σ := σ) (K := K) (p := a) (q := b) (d := farO f a b) a0 (by omega) (by omega) (by omega) fo.1 (by omega)
        rw [show min a b = a by omega, show max a b = b by omega] at x108'
        simp only [s109_19, s109_21, s109_24, s109_25, s109_28, s109_29, s109_32, s109_35, s109_36, s109_39, s109_41, s109_44, s109_47, s109_48, s109_51, s109_52, s109_54, s109_57, s109_58, s109_61, s109_62, s109_65, s109_66, s109_68, s109_71, s109_72, s109_73, s109_75, s109_76, s109_79, s109_80, s109_83, sx_push, tf, List.length_cons, List.length_nil, Option.some.injEq, exists_eq_left', Nat.reduceAdd, Nat.reduceLeDiff, true_and, and_true, true_or, or_true, Int.zero_add, Nat.zero_le, eq_self, ne_eq, not_true_eq_false, not_false_eq_true, false_implies, true_implies, implies_true, b2i_0, b2i_1, b2i_01, up_sc, sc_at, sc_sc, ite_true, ite_false, if_true, if_false, Nat.reduceEqDiff, reduceIte, x49 isP7 hr, x62o isP7 hr hw a0 a1 e (show 0 ≤ b by omega) b1 e2, x108']
        have hnew : oT f a (b + 1) a b := Or.inr ⟨⟨a0, ab, b1⟩, ⟨e, e2⟩, Or.inr ⟨rfl, by omega⟩⟩
        have n1 : a ≠ -1 := by omega
        rcases h with ⟨z1, z2⟩ | ⟨z1, z2, z3⟩
        · rw [prI_ye ⟨⟨e, e2⟩, Or.inl z1⟩] at hK
          have go := ih (b + 1) a b (by omega) (by omega) hnew hK
          rw [if_neg n1, if_neg n1] at go
          rw [if_pos z1, if_pos z1]
          repeat' (first | intro _ | refine And.intro ?_ ?_)
          all_goals first | omega | contradiction | exact go
        · have fo2 := farO_in hw z1.1 (show o < 40 by omega) (show 0 ≤ t by omega) z1.2.2
          rw [if_neg (show ¬ o = -1 by omega), if_neg (show ¬ o = -1 by omega)]
          by_cases e3 : farO f o t < farO f a b
          · rw [prI_ye ⟨⟨e, e2⟩, Or.inr (Or.inr ⟨by decide, e3⟩)⟩] at hK
            have go := ih (b + 1) a b (by omega) (by omega) hnew hK
            rw [if_neg n1, if_neg n1] at go
            repeat' (first | intro _ | refine And.intro ?_ ?_)
            all_goals first | omega | contradiction | exact go
          · rw [prI_no (by omega)] at hK
            have go := ih (b + 1) o t (by omega) (by omega) h' hK
            rw [if_neg (show ¬ o = -1 by omega), if_neg (show ¬ o = -1 by omega)] at go
            repeat' (first | intro _ | refine And.intro ?_ ?_)
            all_goals first | omega | contradiction | exact go
theorem x109l (hr : rL σ 7 f) (h01 : th01 f) (hw : wfc f) : ∀ (k : Nat) (a o t : Int) (v : Option sxV), a + k = 40 → 0 ≤ a → oT f a (a + 1) o t → K (some (vI (if (prO f (farO f) 1 k a o t).1 = -1 then -1 else pkP (prO f (farO f) 1 k a o t).1 (prO f (farO f) 1 k a o t).2 (farO f (prO f (farO f) 1 k a o t).1 (prO f (farO f) 1 k a o t).2)))) (T0 n) σ → Rn 109 6 [some (vR 133), some (vI (if o = -1 then -1 else pkP o t (farO f o t))), some (vI (if o = -1 then -1 else farO f o t)), some (vI a), v] [] (T0 n) σ K := by
  intro k
  induction k with
  | zero =>
    intro a o t v ha a0 h hK
    rw [s109_6]
    unfold prO at hK
    simp only [s109_7, s109_9, s109_92, s109_93, sx_push, tf, List.length_cons, List.length_nil, Option.some.injEq, exists_eq_left', Nat.reduceAdd, Nat.reduceLeDiff, true_and, and_true, true_or, or_true, Int.zero_add, Nat.zero_le, eq_self, ne_eq, not_true_eq_false, not_false_eq_true, false_implies, true_implies, implies_true, b2i_0, b2i_1, b2i_01, up_sc, sc_at, sc_sc, ite_true, ite_false, if_true, if_false, Nat.reduceEqDiff, reduceIte]
    repeat' (first | intro _ | refine And.intro ?_ ?_)
    all_goals first | omega | exact hK
  | succ k ih =>
    intro a o t v ha a0 h hK
    rw [s109_6]
    unfold prO at hK
    have pin := prI_in (d := farO f) (wd := 1) a0 k (a + 1) o t (by omega) (by omega) h
    have main := fun (K' : Rn 109 86 [some (vR 133), some (vI (if (prI f (farO f) 1 a k (a + 1) o t).1 = -1 then -1 else pkP (prI f (farO f) 1 a k (a + 1) o t).1 (prI f (farO f) 1 a k (a + 1) o t).2 (farO f (prI f (farO f) 1 a k (a + 1) o t).1 (prI f (farO f) 1 a k (a + 1) o t).2))), some (vI (if (prI f (farO f) 1 a k (a + 1) o t).1 = -1 then -1 else farO f (prI f (farO f) 1 a k (a + 1) o t).1 (prI f (farO f) 1 a k (a + 1) o t).2)), some (vI a), some (vI 40)] [] (T0 n) σ K) => x109i hr h01 hw a0 (by omega) k (a + 1) o t (by omega) (by omega) h K'
    generalize prI f (farO f) 1 a k (a + 1) o t = P at *
    simp only [s109_7, s109_9, s109_12, s109_13, s109_14, s109_15, sx_push, tf, List.length_cons, List.length_nil, Option.some.injEq, exists_eq_left', Nat.reduceAdd, Nat.reduceLeDiff, true_and, and_true, true_or, or_true, Int.zero_add, Nat.zero_le, eq_self, ne_eq, not_true_eq_false, not_false_eq_true, false_implies, true_implies, implies_true, b2i_0, b2i_1, b2i_01, up_sc, sc_at, sc_sc, ite_true, ite_false, if_true, if_false, Nat.reduceEqDiff, reduceIte]
    repeat' (first | intro _ | refine And.intro ?_ ?_)
    all_goals first | omega | skip
    refine main ?_
    simp only [s109_86, s109_89, sx_push, tf, List.length_cons, List.length_nil, Option.some.injEq, exists_eq_left', Nat.reduceAdd, Nat.reduceLeDiff, true_and, and_true, true_or, or_true, Int.zero_add, Nat.zero_le, eq_self, ne_eq, not_true_eq_false, not_false_eq_true, false_implies, true_implies, implies_true, b2i_0, b2i_1, b2i_01, up_sc, sc_at, sc_sc, ite_true, ite_false, if_true, if_false, Nat.reduceEqDiff, reduceIte]
    exact ⟨by omega, ih (a + 1) P.1 P.2 _ (by omega) (by omega) pin hK⟩
theorem x109 (hr : rL σ 7 f) (h01 : th01 f) (hw : wfc f) (h2 : 2 ≤ cntF f 40 0 0) : Rn 109 0 [some (vR 133), none, none, none, none] [] (T0 n) σ K ↔ K (some (vI (pkP (pairT f (farO f) 1).1 (pairT f (farO f) 1).2 (farO f (pairT f (farO f) 1).1 (pairT f (farO f) 1).2)))) (T0 n) σ := by
  refine Rn_iff fun K hK => ?_
  have pi := pairT_in h01 (farO f) 1 h2
  have hK2 : K (some (vI (if (prO f (farO f) 1 40 0 (-1) (-1)).1 = -1 then -1 else pkP (prO f (farO f) 1 40 0 (-1) (-1)).1 (prO f (farO f) 1 40 0 (-1) (-1)).2 (farO f (prO f (farO f) 1 40 0 (-1) (-1)).1 (prO f (farO f) 1 40 0 (-1) (-1)).2)))) (T0 n) σ := by
    change K (some (vI (if (pairT f (farO f) 1).1 = -1 then -1 else pkP (pairT f (farO f) 1).1 (pairT f (farO f) 1).2 (farO f (pairT f (farO f) 1).1 (pairT f (farO f) 1).2)))) (T0 n) σ
    rw [if_neg (by omega)]; exact hK
  have := x109l (n := n) hr h01 hw 40 0 (-1) (-1) none (by omega) (by omega) (Or.inl ⟨rfl, rfl⟩) hK2
  rw [if_pos rfl, if_pos rfl] at this
  simp only [s109_0, s109_1, s109_2, s109_3, s109_4, s109_5, sx_push, tf, List.length_cons, List.length_nil, Option.some.injEq, exists_eq_left', Nat.reduceAdd, Nat.reduceLeDiff, true_and, and_true, true_or, or_true, Int.zero_add, Nat.zero_le, eq_self, ne_eq, not_true_eq_false, not_false_eq_true, false_implies, true_implies, implies_true, b2i_0, b2i_1, b2i_01, up_sc, sc_at, sc_sc, ite_true, ite_false, if_true, if_false, Nat.reduceEqDiff, reduceIte]
  exact this
theorem x244i (h01 : th01 (σ 150)) (hw : wfc (σ 150)) {a w wd : Int} (a0 : 0 ≤ a) (a1 : a < 40) (hwd : (w < 3 ∧ wd = 0) ∨ (3 ≤ w ∧ wd = 1)) : ∀ (k : Nat) (b o t : Int) (u : Option sxV), b + k = 40 → a < b → oT (σ 150) a b o t → (∀ u, Rn 244 137 [some (vR 149), some (vI w), some (vI (prI (σ 150) (farO (σ 150)) wd a k b o t).1), some (vI (prI (σ 150) (farO (σ 150)) wd a k b o t).2), some (vI a), some (vI 40), u] [] (T0 n) σ K) → Rn 244 39 [some (vR 149), some (vI w), some (vI o), some (vI t), some (vI a), some (vI b), u] [] (T0 n) σ K := by
  intro k
  induction k with
  | zero =>
    intro b o t u hb ab h hK
    obtain rfl : b = 40 := by omega
    rw [s244_39]
    have := hK u
    simp only [s244_41, s244_43, sx_push, tf, List.length_cons, List.length_nil, Option.some.injEq, exists_eq_left', Nat.reduceAdd, Nat.reduceLeDiff, true_and, and_true, true_or, or_true, Int.zero_add, Nat.zero_le, eq_self, ne_eq, not_true_eq_false, not_false_eq_true, false_implies, true_implies, implies_true, b2i_0, b2i_1, b2i_01, up_sc, sc_at, sc_sc, ite_true, ite_false, if_true, if_false, Nat.reduceEqDiff, reduceIte]
    repeat' (first | intro _ | refine And.intro ?_ ?_)
    all_goals first | omega | exact this
  | succ k ih =>
    intro b o t u hb ab h hK
    have b1 : b < 40 := by omega
    rw [s244_39]
    have h' : oT (σ 150) a (b + 1) o t := by
      rcases h with z | ⟨z1, z2, z3⟩
      · exact Or.inl z
      · exact Or.inr ⟨z1, z2, by omega⟩
    rcases h01 a a0 a1 with e | e
    · rw [prI_no (by omega)] at hK
      simp only [s244_41, s244_43, s244_46, s244_47, s244_50, s244_51, s244_53, s244_54, s244_55, s244_131, s244_134, sx_push, tf, List.length_cons, List.length_nil, Option.some.injEq, exists_eq_left', Nat.reduceAdd, Nat.reduceLeDiff, true_and, and_true, true_or, or_true, Int.zero_add, Nat.zero_le, eq_self, ne_eq, not_true_eq_false, not_false_eq_true, false_implies, true_implies, implies_true, b2i_0, b2i_1, b2i_01, up_sc, sc_at, sc_sc, ite_true, ite_false, if_true, if_false, Nat.reduceEqDiff, reduceIte, e]
      repeat' (first | intro _ | refine And.intro ?_ ?_)
      all_goals first | omega | exact ih (b + 1) o t _ (by omega) (by omega) h' hK
    · rcases h01 b (by omega) b1 with e2 | e2
      · rw [prI_no (by omega)] at hK
        simp only [s244_41, s244_43, s244_46, s244_47, s244_50, s244_51, s244_53, s244_54, s244_55, s244_58, s244_59, s244_62, s244_63, s244_65, s244_66, s244_67, s244_70, s244_131, s244_134, sx_push, tf, List.length_cons, List.length_nil, Option.some.injEq, exists_eq_left', Nat.reduceAdd, Nat.reduceLeDiff, true_and, and_true, true_or, or_true, Int.zero_add, Nat.zero_le, eq_self, ne_eq, not_true_eq_false, not_false_eq_true, false_implies, true_implies, implies_true, b2i_0, b2i_1, b2i_01, up_sc, sc_at, sc_sc, ite_true, ite_false, if_true, if_false, Nat.reduceEqDiff, reduceIte, e, e2]
        repeat' (first | intro _ | refine And.intro ?_ ?_)
        all_goals first | omega | exact ih (b + 1) o t _ (by omega) (by omega) h' hK
      · have fo := farO_in hw a0 a1 (show 0 ≤ b by omega) b1
        have hnew : oT (σ 150) a (b + 1) a b := Or.inr ⟨⟨a0, ab, b1⟩, ⟨e, e2⟩, Or.inr ⟨rfl, by omega⟩⟩
        rcases h with ⟨z1, z2⟩ | ⟨z1, z2, z3⟩
        · rw [prI_ye ⟨⟨e, e2⟩, Or.inl z1⟩] at hK
          have go := fun u => ih (b + 1) a b u (by omega) (by omega) hnew hK
          simp only [s244_41, s244_43, s244_46, s244_47, s244_50, s244_51, s244_53, s244_54, s244_55, s244_58, s244_59, s244_62, s244_63, s244_65, s244_66, s244_67, s244_70, s244_73, s244_74, s244_75, s244_78, s244_79, s244_97, s244_99, s244_100, s244_101, s244_125, s244_127, s244_128, s244_130, s244_131, s244_134, sx_push, tf, List.length_cons, List.length_nil, Option.some.injEq, exists_eq_left', Nat.reduceAdd, Nat.reduceLeDiff, true_and, and_true, true_or, or_true, Int.zero_add, Nat.zero_le, eq_self, ne_eq, not_true_eq_false, not_false_eq_true, false_implies, true_implies, implies_true, b2i_0, b2i_1, b2i_01, up_sc, sc_at, sc_sc, ite_true, ite_false, if_true, if_false, Nat.reduceEqDiff, reduceIte, e, e2]
          repeat' (first | intro _ | refine And.intro ?_ ?_)
          all_goals first | omega | exact go _
        · have fo2 := farO_in hw z1.1 (show o < 40 by omega) (show 0 ≤ t by omega) z1.2.2
          simp only [s244_41, s244_43, s244_46, s244_47, s244_50, s244_51, s244_53, s244_54, s244_55, s244_58, s244_59, s244_62, s244_63, s244_65, s244_66, s244_67, s244_70, s244_73, s244_74, s244_75, s244_78, s244_79, s244_82, s244_83, s244_85, s244_87, s244_90, s244_91, s244_92, s244_93, s244_96, s244_97, s244_99, s244_100, s244_101, s244_104, s244_105, s244_106, s244_109, s244_111, s244_114, s244_117, s244_119, s244_122, s244_125, s244_127, s244_128, s244_130, s244_131, s244_134, sx_push, tf, List.length_cons, List.length_nil, Option.some.injEq, exists_eq_left', Nat.reduceAdd, Nat.reduceLeDiff, true_and, and_true, true_or, or_true, Int.zero_add, Nat.zero_le, eq_self, ne_eq, not_true_eq_false, not_false_eq_true, false_implies, true_implies, implies_true, b2i_0, b2i_1, b2i_01, up_sc, sc_at, sc_sc, ite_true, ite_false, if_true, if_false, Nat.reduceEqDiff, reduceIte, e, e2, x216o hw a0 a1 (show 0 ≤ b by omega) b1, x216o hw z1.1 (show o < 40 by omega) (show 0 ≤ t by omega) z1.2.2]
          by_cases e3 : (wd = 0 ∧ farO (σ 150) a b < farO (σ 150) o t) ∨ (wd ≠ 0 ∧ farO (σ 150) o t < farO (σ 150) a b)
          · rw [prI_ye ⟨⟨e, e2⟩, Or.inr e3⟩] at hK
            have go := fun u => ih (b + 1) a b u (by omega) (by omega) hnew hK
            repeat' (first | intro _ | refine And.intro ?_ ?_)
            all_goals first | omega | exact go _
          · rw [prI_no (fun y => y.2.elim (by omega) e3)] at hK
            have go := fun u => ih (b + 1) o t u (by omega) (by omega) h' hK
            repeat' (first | intro _ | refine And.intro ?_ ?_)
            all_goals first | omega | exact go _
theorem x244l (h01 : th01 (σ 150)) (hw : wfc (σ 150)) {w wd : Int} (hwd : (w < 3 ∧ wd = 0) ∨ (3 ≤ w ∧ wd = 1)) : ∀ (k : Nat) (a o t : Int) (u v : Option sxV), a + k = 40 → 0 ≤ a → oT (σ 150) a (a + 1) o t → (∀ u v, Rn 244 143 [some (vR 149), some (vI w), some (vI (prO (σ 150) (farO (σ 150)) wd k a o t).1), some (vI (prO (σ 150) (farO (σ 150)) wd k a o t).2), some (vI 40), u, v] [] (T0 n) σ K) → Rn 244 26 [some (vR 149), some (vI w), some (vI o), some (vI t), some (vI a), u, v] [] (T0 n) σ K := by
  intro k
  induction k with
  | zero =>
    intro a o t u v ha a0 h hK
    obtain rfl : a = 40 := by omega
    rw [s244_26]
    have := hK u v
    simp only [s244_28, s244_30, sx_push, tf, List.length_cons, List.length_nil, Option.some.injEq, exists_eq_left', Nat.reduceAdd, Nat.reduceLeDiff, true_and, and_true, true_or, or_true, Int.zero_add, Nat.zero_le, eq_self, ne_eq, not_true_eq_false, not_false_eq_true, false_implies, true_implies, implies_true, b2i_0, b2i_1, b2i_01, up_sc, sc_at, sc_sc, ite_true, ite_false, if_true, if_false, Nat.reduceEqDiff, reduceIte]
    repeat' (first | intro _ | refine And.intro ?_ ?_)
    all_goals first | omega | exact this
  | succ k ih =>
    intro a o t u v ha a0 h hK
    rw [s244_26]
    unfold prO at hK
    have pin := prI_in (d := farO (σ 150)) (wd := wd) a0 k (a + 1) o t (by omega) (by omega) h
    have main := fun (K' : ∀ u, Rn 244 137 [some (vR 149), some (vI w), some (vI (prI (σ 150) (farO (σ 150)) wd a k (a + 1) o t).1), some (vI (prI (σ 150) (farO (σ 150)) wd a k (a + 1) o t).2), some (vI a), some (vI 40), u] [] (T0 n) σ K) => x244i h01 hw a0 (by omega) hwd k (a + 1) o t v (by omega) (by omega) h K'
    generalize prI (σ 150) (farO (σ 150)) wd a k (a + 1) o t = P at *
    simp only [s244_28, s244_30, s244_33, s244_35, s244_36, s244_37, sx_push, tf, List.length_cons, List.length_nil, Option.some.injEq, exists_eq_left', Nat.reduceAdd, Nat.reduceLeDiff, true_and, and_true, true_or, or_true, Int.zero_add, Nat.zero_le, eq_self, ne_eq, not_true_eq_false, not_false_eq_true, false_implies, true_implies, implies_true, b2i_0, b2i_1, b2i_01, up_sc, sc_at, sc_sc, ite_true, ite_false, if_true, if_false, Nat.reduceEqDiff, reduceIte]
    repeat' (first | intro _ | refine And.intro ?_ ?_)
    all_goals first | omega | skip
    refine main (fun u => ?_)
    simp only [s244_137, s244_140, sx_push, tf, List.length_cons, List.length_nil, Option.some.injEq, exists_eq_left', Nat.reduceAdd, Nat.reduceLeDiff, true_and, and_true, true_or, or_true, Int.zero_add, Nat.zero_le, eq_self, ne_eq, not_true_eq_false, not_false_eq_true, false_implies, true_implies, implies_true, b2i_0, b2i_1, b2i_01, up_sc, sc_at, sc_sc, ite_true, ite_false, if_true, if_false, Nat.reduceEqDiff, reduceIte]
    exact ⟨by omega, ih (a + 1) P.1 P.2 _ _ (by omega) (by omega) pin hK⟩
def pairS (f : Int → Int) (w : Int) : Int := if 2 ≤ cntF f 40 0 0 ∧ (0 ≤ w ∧ w ≤ 5) then (if w % 3 = 0 then (pairT f (farO f) (if w < 3 then 0 else 1)).1 else if w % 3 = 1 then (pairT f (farO f) (if w < 3 then 0 else 1)).2 else farO f (pairT f (farO f) (if w < 3 then 0 else 1)).1 (pairT f (farO f) (if w < 3 then 0 else 1)).2) else -1
theorem tm3 {a : Int} (h : 0 ≤ a) : a.tmod 3 = a % 3 := Int.tmod_eq_emod_of_nonneg h
theorem x244 (hO : invF (σ 150)) {w : Int} : Rn 244 0 [some (vR 149), some (vI w), none, none, none, none, none] [] (T0 n) σ K ↔ K (some (vI (pairS (σ 150) w))) (T0 n) σ := by
  refine Rn_iff fun K hK => ?_
  unfold pairS at hK
  by_cases e : 2 ≤ cntF (σ 150) 40 0 0 ∧ (0 ≤ w ∧ w ≤ 5)
  · rw [if_pos e] at hK
    have pi := pairT_in hO.1 (farO (σ 150)) (if w < 3 then 0 else 1) e.1
    have main := fun (K' : ∀ u v, Rn 244 143 [some (vR 149), some (vI w), some (vI (pairT (σ 150) (farO (σ 150)) (if w < 3 then 0 else 1)).1), some (vI (pairT (σ 150) (farO (σ 150)) (if w < 3 then 0 else 1)).2), some (vI 40), u, v] [] (T0 n) σ K) => x244l (wd := if w < 3 then 0 else 1) hO.1 hO.2.1 (by split <;> omega) 40 0 (-1) (-1) none none (by omega) (by omega) (Or.inl ⟨rfl, rfl⟩) K'
    generalize pairT (σ 150) (farO (σ 150)) (if w < 3 then 0 else 1) = P at *
    simp only [s244_0, s244_1, s244_4, s244_5, s244_8, s244_9, s244_10, s244_11, s244_14, s244_17, s244_18, s244_19, s244_20, s244_21, s244_22, s244_23, s244_24, sx_push, tf, List.length_cons, List.length_nil, Option.some.injEq, exists_eq_left', Nat.reduceAdd, Nat.reduceLeDiff, true_and, and_true, true_or, or_true, Int.zero_add, Nat.zero_le, eq_self, ne_eq, not_true_eq_false, not_false_eq_true, false_implies, true_implies, implies_true, b2i_0, b2i_1, b2i_01, up_sc, sc_at, sc_sc, ite_true, ite_false, if_true, if_false, Nat.reduceEqDiff, reduceIte, x202 hO.1, x185]
    repeat' (first | intro _ | refine And.intro ?_ ?_)
    all_goals first | omega | skip
    refine main (fun u v => ?_)
    simp only [s244_143, s244_144, s244_145, s244_146, s244_149, s244_150, s244_153, s244_154, s244_155, s244_156, s244_157, s244_160, s244_161, s244_164, s244_165, s244_166, s244_167, s244_170, sx_push, tf, List.length_cons, List.length_nil, Option.some.injEq, exists_eq_left', Nat.reduceAdd, Nat.reduceLeDiff, true_and, and_true, true_or, or_true, Int.zero_add, Nat.zero_le, eq_self, ne_eq, not_true_eq_false, not_false_eq_true, false_implies, true_implies, implies_true, b2i_0, b2i_1, b2i_01, up_sc, sc_at, sc_sc, ite_true, ite_false, if_true, if_false, Nat.reduceEqDiff, reduceIte, tm3 e.2.1, x216o hO.2.1 pi.1.1 (show P.1 < 40 by omega) (show 0 ≤ P.2 by omega) pi.1.2.2]
    repeat' (first | intro _ | refine And.intro ?_ ?_)
    all_goals first | omega | (rw [if_pos (by omega)] at hK; exact hK) | (rw [if_neg (by omega), if_pos (by omega)] at hK; exact hK) | (rw [if_neg (by omega), if_neg (by omega)] at hK; exact hK)
  · rw [if_neg e] at hK
    simp only [s244_0, s244_1, s244_4, s244_5, s244_8, s244_9, s244_10, s244_11, s244_14, s244_17, s244_18, sx_push, tf, List.length_cons, List.length_nil, Option.some.injEq, exists_eq_left', Nat.reduceAdd, Nat.reduceLeDiff, true_and, and_true, true_or, or_true, Int.zero_add, Nat.zero_le, eq_self, ne_eq, not_true_eq_false, not_false_eq_true, false_implies, true_implies, implies_true, b2i_0, b2i_1, b2i_01, up_sc, sc_at, sc_sc, ite_true, ite_false, if_true, if_false, Nat.reduceEqDiff, reduceIte, x202 hO.1, x185]
    repeat' (first | intro _ | refine And.intro ?_ ?_)
    all_goals first | exact hK | omega
theorem cl24 {w : Int} : call2 n c 106 244 [some (vR 1), some (vI w), none] [some (vR 149), some (vI w), none, none, none, none, none] := call2_rd (fun σ => pairS (σ 150) w) (fun σ K h => by
  have h' := h
  obtain ⟨hP, hO, hM, hH, hT, hR, hS, hF, hQ, hV, hI, hG, hW⟩ := h'
  refine Rn_iff fun K hK => ?_
  unfold pairS at hK
  by_cases e : 2 ≤ cntF (σ 150) 40 0 0 ∧ (0 ≤ w ∧ w ≤ 5)
  · rw [if_pos e] at hK
    by_cases w3 : w < 3
    · rw [if_pos w3] at hK
      have pi := pairT_in hO.1.1 (farO (σ 150)) 0 e.1
      have x107' := fun K => x107 (n := n) (σ := σ) (K := K) hP.1.1 hO.1.1 hO.1.2.1 e.1
      generalize pairT (σ 150) (farO (σ 150)) 0 = P at *
      have fo := farO_in hO.1.2.1 pi.1.1 (show P.1 < 40 by omega) (show 0 ≤ P.2 by omega) pi.1.2.2
      simp only [s106_0, s106_1, s106_4, s106_7, s106_8, s106_11, s106_12, s106_15, s106_16, s106_17, s106_20, s106_21, s106_22, s106_23, s106_24, s106_27, s106_28, s106_31, s106_34, s106_37, s106_38, s106_41, s106_44, s106_45, s106_46, s106_47, s106_48, s106_49, s106_52, sx_push, tf, List.length_cons, List.length_nil, Option.some.injEq, exists_eq_left', Nat.reduceAdd, Nat.reduceLeDiff, true_and, and_true, true_or, or_true, Int.zero_add, Nat.zero_le, eq_self, ne_eq, not_true_eq_false, not_false_eq_true, false_implies, true_implies, implies_true, b2i_0, b2i_1, b2i_01, up_sc, sc_at, sc_sc, ite_true, ite_false, if_true, if_false, Nat.reduceEqDiff, reduceIte, hP.1.2.2.2, x107', tm3 e.2.1, x110 (n := n) pi.1.1 (show P.1 < 64 by omega) (show 0 ≤ P.2 by omega) (show P.2 < 64 by omega) fo.1 (show farO (σ 150) P.1 P.2 ≤ 100000 by omega)]
      repeat' (first | intro _ | refine And.intro ?_ ?_)
      all_goals first | omega | exact hK
    · rw [if_neg w3] at hK
      have pi := pairT_in hO.1.1 (farO (σ 150)) 1 e.1
      have x109' := fun K => x109 (n := n) (σ := σ) (K := K) hP.1.1 hO.1.1 hO.1.2.1 e.1
      generalize pairT (σ 150) (farO (σ 150)) 1 = P at *
      have fo := farO_in hO.1.2.1 pi.1.1 (show P.1 < 40 by omega) (show 0 ≤ P.2 by omega) pi.1.2.2
      simp only [s106_0, s106_1, s106_4, s106_7, s106_8, s106_11, s106_12, s106_15, s106_16, s106_17, s106_20, s106_21, s106_22, s106_23, s106_24, s106_27, s106_28, s106_31, s106_34, s106_37, s106_38, s106_41, s106_44, s106_45, s106_46, s106_47, s106_48, s106_49, s106_52, sx_push, tf, List.length_cons, List.length_nil, Option.some.injEq, exists_eq_left', Nat.reduceAdd, Nat.reduceLeDiff, true_and, and_true, true_or, or_true, Int.zero_add, Nat.zero_le, eq_self, ne_eq, not_true_eq_false, not_false_eq_true, false_implies, true_implies, implies_true, b2i_0, b2i_1, b2i_01, up_sc, sc_at, sc_sc, ite_true, ite_false, if_true, if_false, Nat.reduceEqDiff, reduceIte, hP.1.2.2.2, x109', tm3 e.2.1, x110 (n := n) pi.1.1 (show P.1 < 64 by omega) (show 0 ≤ P.2 by omega) (show P.2 < 64 by omega) fo.1 (show farO (σ 150) P.1 P.2 ≤ 100000 by omega)]
      repeat' (first | intro _ | refine And.intro ?_ ?_)
      all_goals first | omega | exact hK
  · rw [if_neg e] at hK
    simp only [s106_0, s106_1, s106_4, s106_7, s106_8, s106_11, s106_12, s106_15, s106_16, s106_17, s106_20, s106_21, sx_push, tf, List.length_cons, List.length_nil, Option.some.injEq, exists_eq_left', Nat.reduceAdd, Nat.reduceLeDiff, true_and, and_true, true_or, or_true, Int.zero_add, Nat.zero_le, eq_self, ne_eq, not_true_eq_false, not_false_eq_true, false_implies, true_implies, implies_true, b2i_0, b2i_1, b2i_01, up_sc, sc_at, sc_sc, ite_true, ite_false, if_true, if_false, Nat.reduceEqDiff, reduceIte, hP.1.2.2.2]
    repeat' (first | intro _ | refine And.intro ?_ ?_)
    all_goals first | exact hK | omega) (fun σ K h => x244 (Rel_inv h))
end PR
