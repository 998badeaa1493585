/-! centers -/
def ceJ (f g : Int → Int) (p : Int) : Nat → Int → Int → Int
  | 0, _, b => b
  | m + 1, i, b => ceJ f g p m (i + 1) (if b = -1 ∨ farO f p (g i) < farO f p b ∨ (farO f p (g i) = farO f p b ∧ g i < b) then g i else b)
def ceT (f g : Int → Int) (m p : Int) : Int := ceJ f g p m.toNat 0 (-1)
theorem ceJ_cg {f g h : Int → Int} {p : Int} : ∀ (m : Nat) (i b : Int), (∀ j, i ≤ j → j < i + m → g j = h j) → ceJ f g p m i b = ceJ f h p m i b := by
  intro m
  induction m with
  | zero => intro i b _; rfl
  | succ m ih =>
    intro i b e
    unfold ceJ
    rw [e i (by omega) (by omega)]
    exact ih _ _ (fun j x y => e j (by omega) (by omega))
theorem ceJ_in {f g : Int → Int} {p : Int} : ∀ (m : Nat) (i b : Int), (∀ j, i ≤ j → j < i + m → (0 ≤ g j ∧ g j < 40) ∧ f (g j) = 1) → ((0 ≤ b ∧ b < 40) ∧ f b = 1) → (0 ≤ ceJ f g p m i b ∧ ceJ f g p m i b < 40) ∧ f (ceJ f g p m i b) = 1 := by
  intro m
  induction m with
  | zero => intro i b _ h; exact h
  | succ m ih =>
    intro i b h hb
    unfold ceJ
    refine ih _ _ (fun j x y => h j (by omega) (by omega)) ?_
    split
    · exact h i (by omega) (by omega)
    · exact hb
theorem ceT_1 {f g : Int → Int} {m p : Int} (hm : 1 ≤ m) : ceT f g m p = ceJ f g p (m.toNat - 1) 1 (g 0) := by
  unfold ceT
  rw [show m.toNat = (m.toNat - 1) + 1 by omega]
  show ceJ f g p (m.toNat - 1 + 1 - 1 + 0) (0 + 1) _ = _
  rw [if_pos (Or.inl rfl)]
  rfl
theorem ceT_in {f g : Int → Int} {m p : Int} (hm : 1 ≤ m) (h : ∀ j, 0 ≤ j → j < m → (0 ≤ g j ∧ g j < 40) ∧ f (g j) = 1) : (0 ≤ ceT f g m p ∧ ceT f g m p < 40) ∧ f (ceT f g m p) = 1 := by
  rw [ceT_1 hm]
  exact ceJ_in _ _ _ (fun j a b => h j (by omega) (by omega)) (h 0 (by omega) (by omega))
def ffJ (f ce : Int → Int) : Nat → Int → Int → Int → Int × Int
  | 0, _, a, b => (a, b)
  | k + 1, p, a, b => if f p = 1 ∧ b < farO f p (ce p) then ffJ f ce k (p + 1) p (farO f p (ce p)) else ffJ f ce k (p + 1) a b
theorem ffJ_in {f ce : Int → Int} : ∀ (k : Nat) (p a b : Int), p + k = 40 → 0 ≤ p → ((a = -1 ∧ b = -1) ∨ ((0 ≤ a ∧ a < 40) ∧ f a = 1 ∧ b = farO f a (ce a))) → ((ffJ f ce k p a b).1 = -1 ∧ (ffJ f ce k p a b).2 = -1) ∨ ((0 ≤ (ffJ f ce k p a b).1 ∧ (ffJ f ce k p a b).1 < 40) ∧ f (ffJ f ce k p a b).1 = 1 ∧ (ffJ f ce k p a b).2 = farO f (ffJ f ce k p a b).1 (ce (ffJ f ce k p a b).1)) := by
  intro k
  induction k with
  | zero => intro p a b _ _ h; exact h
  | succ k ih =>
    intro p a b hp p0 h
    unfold ffJ
    by_cases e : f p = 1 ∧ b < farO f p (ce p)
    · rw [if_pos e]; exact ih _ _ _ (by omega) (by omega) (Or.inr ⟨⟨p0, by omega⟩, e.1, rfl⟩)
    · rw [if_neg e]; exact ih _ _ _ (by omega) (by omega) h
def wiF (f ce : Int → Int) (p : Int) : Int := cnt (fun q => decide (f q = 1 ∧ ce q = p)) 40 0 0
def crJ (f ce : Int → Int) : Nat → Int → Int → Int
  | 0, _, a => a
  | k + 1, p, a => if f p = 1 then crJ f ce k (p + 1) (max a (wiF f ce p)) else crJ f ce k (p + 1) a
def moJ (f ce : Int → Int) : Nat → Int → (Int → Int) → Int → Int
  | 0, _, _, a => a
  | k + 1, p, C, a => if f p = 1 then moJ f ce k (p + 1) (up1 C (ce p) (C (ce p) + 1)) (max a (C (ce p) + 1)) else moJ f ce k (p + 1) C a
def mxA (C : Int → Int) : Nat → Int → Int → Int
  | 0, _, a => a
  | k + 1, p, a => mxA C k (p + 1) (max a (C p))
theorem mxA_max (C : Int → Int) : ∀ (k : Nat) (p a b : Int), mxA C k p (max a b) = max (mxA C k p a) b := by
  intro k
  induction k with
  | zero => intro p a b; rfl
  | succ k ih =>
    intro p a b
    unfold mxA
    rw [show max (max a b) (C p) = max (max a (C p)) b by omega]
    exact ih _ _ _
theorem mxA_cg {C D : Int → Int} : ∀ (k : Nat) (p a : Int), (∀ q, p ≤ q → q < p + k → C q = D q) → mxA C k p a = mxA D k p a := by
  intro k
  induction k with
  | zero => intro p a _; rfl
  | succ k ih =>
    intro p a h
    unfold mxA
    rw [h p (by omega) (by omega)]
    exact ih _ _ (fun q x y => h q (by omega) (by omega))
theorem mxA_up {C : Int → Int} {x v : Int} (hv : C x ≤ v) : ∀ (k : Nat) (p a : Int), p ≤ x → x < p + k → mxA (up1 C x v) k p a = max (mxA C k p a) v := by
  intro k
  induction k with
  | zero => intro p a h1 h2; omega
  | succ k ih =>
    intro p a h1 h2
    unfold mxA
    by_cases e : p = x
    · subst e
      rw [up1_s, mxA_cg (D := C) k (p + 1) (max a v) (fun q x y => up1_n (by omega)), mxA_max, mxA_max]
      omega
    · rw [up1_n e]
      exact ih _ _ (by omega) (by omega)
theorem cnt_s (c : Int → Bool) (k : Nat) (p a : Int) : cnt c (k + 1) p a = cnt c k (p + 1) (if c p = true then a + 1 else a) := rfl
theorem mxA_z : ∀ (k : Nat) (p : Int), mxA (fun _ => 0) k p 0 = 0 := by
  intro k
  induction k with
  | zero => intro p; rfl
  | succ k ih => intro p; exact ih (p + 1)
theorem mo_mx {f ce : Int → Int} (hc : ∀ p, 0 ≤ p → p < 40 → f p = 1 → 0 ≤ ce p ∧ ce p < 40) : ∀ (k : Nat) (p : Int) (C : Int → Int) (a : Int), p + k = 40 → 0 ≤ p → a = mxA C 40 0 0 → moJ f ce k p C a = mxA (fun x => C x + cnt (fun q => decide (f q = 1 ∧ ce q = x)) k p 0) 40 0 0 := by
  intro k
  induction k with
  | zero =>
    intro p C a _ _ h
    rw [h]
    refine mxA_cg 40 0 0 (fun q _ _ => ?_)
    show C q = C q + 0
    omega
  | succ k ih =>
    intro p C a hp p0 h
    unfold moJ
    by_cases e : f p = 1
    · rw [if_pos e]
      have hce := hc p p0 (by omega) e
      rw [ih (p + 1) _ _ (by omega) (by omega) (by rw [h, mxA_up (by omega) 40 0 0 (by omega) (by omega)])]
      refine mxA_cg 40 0 0 (fun q _ _ => ?_)
      show up1 C (ce p) (C (ce p) + 1) q + cnt (fun r => decide (f r = 1 ∧ ce r = q)) k (p + 1) 0 = C q + cnt (fun r => decide (f r = 1 ∧ ce r = q)) (k + 1) p 0
      rw [cnt_s]
      by_cases e2 : q = ce p
      · subst e2
        rw [up1_s, if_pos (by simp [e]), cnt_add]
        omega
      · rw [up1_n e2, if_neg (by simp [e]; omega)]
    · rw [if_neg e, ih (p + 1) C a (by omega) (by omega) h]
      refine mxA_cg 40 0 0 (fun q _ _ => ?_)
      show C q + cnt (fun r => decide (f r = 1 ∧ ce r = q)) k (p + 1) 0 = C q + cnt (fun r => decide (f r = 1 ∧ ce r = q)) (k + 1) p 0
      rw [cnt_s]
      rw [if_neg (by simp [e])]
theorem cnt_zero {c : Int → Bool} : ∀ (k : Nat) (p a : Int), (∀ q, p ≤ q → q < p + k → c q = false) → cnt c k p a = a := by
  intro k
  induction k with
  | zero => intro p a _; rfl
  | succ k ih =>
    intro p a h
    unfold cnt
    rw [if_neg (by rw [h p (by omega) (by omega)]; decide)]
    exact ih _ _ (fun q x y => h q (by omega) (by omega))
theorem cr_mx {f ce : Int → Int} (hc : ∀ p, 0 ≤ p → p < 40 → f p = 1 → f (ce p) = 1) : ∀ (k : Nat) (p a : Int), p + k = 40 → 0 ≤ p → 0 ≤ a → crJ f ce k p a = mxA (wiF f ce) k p a := by
  intro k
  induction k with
  | zero => intro p a _ _ _; rfl
  | succ k ih =>
    intro p a hp p0 a0
    unfold crJ mxA
    by_cases e : f p = 1
    · rw [if_pos e]; exact ih _ _ (by omega) (by omega) (by omega)
    · rw [if_neg e]
      have : wiF f ce p = 0 := by
        unfold wiF
        refine cnt_zero 40 0 0 (fun q a b => ?_)
        rw [decide_eq_false_iff_not]
        rintro ⟨y1, y2⟩
        exact e (y2 ▸ hc q a (by omega) y1)
      rw [this, show max a 0 = a by omega]
      exact ih _ _ (by omega) (by omega) a0
theorem mo_cr {f ce : Int → Int} (hc : ∀ p, 0 ≤ p → p < 40 → f p = 1 → (0 ≤ ce p ∧ ce p < 40) ∧ f (ce p) = 1) : moJ f ce 40 0 (fun _ => 0) 0 = crJ f ce 40 0 0 := by
  rw [mo_mx (fun p a b c => (hc p a b c).1) 40 0 _ _ (by omega) (by omega) (mxA_z 40 0).symm, cr_mx (fun p a b c => (hc p a b c).2) 40 0 0 (by omega) (by omega) (by omega)]
  refine mxA_cg 40 0 0 (fun q _ _ => ?_)
  show 0 + _ = _
  rw [Int.zero_add]
  rfl
def cenS (f : Int → Int) (m w : Int) : Int := if w = 0 then (ffJ f (ceT f (TH f).1 m) 40 0 (-1) (-1)).2 else if w = 1 then (ffJ f (ceT f (TH f).1 m) 40 0 (-1) (-1)).1 else crJ f (ceT f (TH f).1 m) 40 0 0
section T3
variable {n : Nat} {c : Int} {σ : sxS} {K : Option sxV → sxT → sxS → Prop} {f g ce : Int → Int}
theorem x242l (hw : wfc (σ 150)) {p m' : Int} (p0 : 0 ≤ p) (p1 : p < 40) (hm : m' ≤ 40) (hg : ∀ j, 0 ≤ j → j < m' → 0 ≤ σ 162 j ∧ σ 162 j < 40) : ∀ (m : Nat) (i b : Int) (u : Option sxV), i + m = m' → 0 ≤ i → (0 ≤ b ∧ b < 40) → K (some (vI (ceJ (σ 150) (σ 162) p m i b))) (T0 n) σ → Rn 242 10 [some (vR 149), some (vI p), some (vI m'), some (vI b), some (vI i), u] [] (T0 n) σ K := by
  intro m
  induction m with
  | zero =>
    intro i b u hi i0 hb hK
    rw [s242_10]
    simp only [s242_12, s242_13, s242_72, s242_73, sx_push, tf, List.length_cons, List.length_nil, Option.some.injEq, exists_eq_left', Nat.reduceAdd, Nat.reduceLeDiff, true_and, and_true, true_or, or_true, Int.zero_add, Nat.zero_le, eq_self, ne_eq, not_true_eq_false, not_false_eq_true, false_implies, true_implies, implies_true, b2i_0, b2i_1, b2i_01, up_sc, sc_at, sc_sc, ite_true, ite_false, if_true, if_false, Nat.reduceEqDiff, reduceIte]
    repeat' (first | intro _ | refine And.intro ?_ ?_)
    all_goals first | omega | exact hK
  | succ m ih =>
    intro i b u hi i0 hb hK
    have z := hg i i0 (by omega)
    have fo := farO_in hw p0 p1 z.1 z.2
    have fb := farO_in hw p0 p1 hb.1 hb.2
    rw [s242_10]
    unfold ceJ at hK
    simp only [s242_12, s242_13, s242_16, s242_17, s242_18, s242_19, s242_22, s242_24, s242_25, s242_28, s242_29, s242_30, s242_31, s242_34, s242_35, s242_37, s242_39, s242_42, s242_44, s242_47, s242_48, s242_51, s242_53, s242_54, s242_55, s242_58, s242_59, s242_62, s242_64, s242_65, s242_66, s242_69, sx_push, tf, List.length_cons, List.length_nil, Option.some.injEq, exists_eq_left', Nat.reduceAdd, Nat.reduceLeDiff, true_and, and_true, true_or, or_true, Int.zero_add, Nat.zero_le, eq_self, ne_eq, not_true_eq_false, not_false_eq_true, false_implies, true_implies, implies_true, b2i_0, b2i_1, b2i_01, up_sc, sc_at, sc_sc, ite_true, ite_false, if_true, if_false, Nat.reduceEqDiff, reduceIte, x216o hw p0 p1 z.1 z.2, x216o hw p0 p1 hb.1 hb.2]
    repeat' (first | intro _ | refine And.intro ?_ ?_)
    all_goals first | omega | (split at hK <;> first | omega | exact ih _ _ _ (by omega) (by omega) (by omega) hK)
theorem x242 (hw : wfc (σ 150)) {p m' : Int} (p0 : 0 ≤ p) (p1 : p < 40) (hm1 : 1 ≤ m') (hm : m' ≤ 40) (hg : ∀ j, 0 ≤ j → j < m' → (0 ≤ g j ∧ g j < 40) ∧ σ 162 j = g j) : Rn 242 0 [some (vR 149), some (vI p), some (vI m'), none, none, none] [] (T0 n) σ K ↔ K (some (vI (ceT (σ 150) g m' p))) (T0 n) σ := by
  refine Rn_iff fun K hK => ?_
  have z := hg 0 (by omega) (by omega)
  rw [ceT_1 hm1, ← ceJ_cg (g := σ 162) _ _ _ (fun j a b => (hg j (by omega) (by omega)).2), ← z.2] at hK
  have z' : 0 ≤ σ 162 0 ∧ σ 162 0 < 40 := by rw [z.2]; exact z.1
  simp only [s242_0, s242_1, s242_4, s242_5, s242_6, s242_7, s242_8, sx_push, tf, List.length_cons, List.length_nil, Option.some.injEq, exists_eq_left', Nat.reduceAdd, Nat.reduceLeDiff, true_and, and_true, true_or, or_true, Int.zero_add, Nat.zero_le, eq_self, ne_eq, not_true_eq_false, not_false_eq_true, false_implies, true_implies, implies_true, b2i_0, b2i_1, b2i_01, up_sc, sc_at, sc_sc, ite_true, ite_false, if_true, if_false, Nat.reduceEqDiff, reduceIte]
  exact ⟨by omega, x242l hw p0 p1 hm (fun j a b => by rw [(hg j a b).2]; exact (hg j a b).1) _ 1 _ _ (by omega) (by omega) z' hK⟩
theorem x243i (h01 : th01 (σ 150)) {m' w l3 l4 l5 l6 p l8 : Int} (hce : ∀ q, 0 ≤ q → q < 40 → ∀ K, Rn 242 0 [some (vR 149), some (vI q), some (vI m'), none, none, none] [] (T0 n) σ K ↔ K (some (vI (ce q))) (T0 n) σ) : ∀ (k : Nat) (q a : Int), q + k = 40 → 0 ≤ q → 0 ≤ a → a ≤ q → Rn 243 148 [some (vR 149), some (vI m'), some (vI w), some (vI l3), some (vI l4), some (vI l5), some (vI l6), some (vI p), some (vI l8), some (vI (cnt (fun q => decide (σ 150 q = 1 ∧ ce q = p)) k q a)), some (vI 40)] [] (T0 n) σ K → Rn 243 100 [some (vR 149), some (vI m'), some (vI w), some (vI l3), some (vI l4), some (vI l5), some (vI l6), some (vI p), some (vI l8), some (vI a), some (vI q)] [] (T0 n) σ K := by
  intro k
  induction k with
  | zero =>
    intro q a hq q0 a0 a1 hK
    obtain rfl : q = 40 := by omega
    rw [s243_100]
    simp only [s243_102, s243_104, sx_push, tf, List.length_cons, List.length_nil, Option.some.injEq, exists_eq_left', Nat.reduceAdd, Nat.reduceLeDiff, true_and, and_true, true_or, or_true, Int.zero_add, Nat.zero_le, eq_self, ne_eq, not_true_eq_false, not_false_eq_true, false_implies, true_implies, implies_true, b2i_0, b2i_1, b2i_01, up_sc, sc_at, sc_sc, ite_true, ite_false, if_true, if_false, Nat.reduceEqDiff, reduceIte]
    repeat' (first | intro _ | refine And.intro ?_ ?_)
    all_goals first | omega | exact hK
  | succ k ih =>
    intro q a hq q0 a0 a1 hK
    have q1 : q < 40 := by omega
    rw [s243_100]
    unfold cnt at hK
    simp only [decide_eq_true_eq] at hK
    simp only [s243_102, s243_104, s243_107, s243_109, s243_110, s243_113, s243_114, s243_116, s243_117, s243_118, s243_119, s243_122, s243_123, s243_125, s243_126, s243_129, s243_131, s243_134, s243_135, s243_138, s243_139, s243_140, s243_142, s243_145, sx_push, tf, List.length_cons, List.length_nil, Option.some.injEq, exists_eq_left', Nat.reduceAdd, Nat.reduceLeDiff, true_and, and_true, true_or, or_true, Int.zero_add, Nat.zero_le, eq_self, ne_eq, not_true_eq_false, not_false_eq_true, false_implies, true_implies, implies_true, b2i_0, b2i_1, b2i_01, up_sc, sc_at, sc_sc, ite_true, ite_false, if_true, if_false, Nat.reduceEqDiff, reduceIte, hce q q0 q1, Int.add_zero]
    repeat' (first | intro _ | refine And.intro ?_ ?_)
    all_goals first | omega | (split at hK <;> first | omega | exact ih _ _ (by omega) (by omega) (by omega) (by omega) hK)
theorem x243l (hO : invF (σ 150)) {m' w l3 : Int} (hce : ∀ q, 0 ≤ q → q < 40 → ∀ K, Rn 242 0 [some (vR 149), some (vI q), some (vI m'), none, none, none] [] (T0 n) σ K ↔ K (some (vI (ce q))) (T0 n) σ) (hcr : ∀ q, 0 ≤ q → q < 40 → σ 150 q = 1 → 0 ≤ ce q ∧ ce q < 40) : ∀ (k : Nat) (p a b d : Int) (u v x : Option sxV), p + k = 40 → 0 ≤ p → -1 ≤ b → (∀ u v x, Rn 243 163 [some (vR 149), some (vI m'), some (vI w), some (vI l3), some (vI (ffJ (σ 150) ce k p a b).2), some (vI (ffJ (σ 150) ce k p a b).1), some (vI (crJ (σ 150) ce k p d)), some (vI 40), u, v, x] [] (T0 n) σ K) → Rn 243 37 [some (vR 149), some (vI m'), some (vI w), some (vI l3), some (vI b), some (vI a), some (vI d), some (vI p), u, v, x] [] (T0 n) σ K := by
  intro k
  induction k with
  | zero =>
    intro p a b d u v x hp p0 hb hK
    obtain rfl : p = 40 := by omega
    rw [s243_37]
    simp only [s243_39, s243_41, sx_push, tf, List.length_cons, List.length_nil, Option.some.injEq, exists_eq_left', Nat.reduceAdd, Nat.reduceLeDiff, true_and, and_true, true_or, or_true, Int.zero_add, Nat.zero_le, eq_self, ne_eq, not_true_eq_false, not_false_eq_true, false_implies, true_implies, implies_true, b2i_0, b2i_1, b2i_01, up_sc, sc_at, sc_sc, ite_true, ite_false, if_true, if_false, Nat.reduceEqDiff, reduceIte]
    have := hK u v x
    repeat' (first | intro _ | refine And.intro ?_ ?_)
    all_goals first | omega | exact this
  | succ k ih =>
    intro p a b d u v x hp p0 hb hK
    have p1 : p < 40 := by omega
    rw [s243_37]
    unfold ffJ crJ at hK
    rcases hO.1 p p0 p1 with e | e
    · simp only [if_neg (show ¬ σ 150 p = 1 by omega), if_neg (show ¬ (σ 150 p = 1 ∧ b < farO (σ 150) p (ce p)) by omega)] at hK
      simp only [s243_39, s243_41, s243_44, s243_45, s243_48, s243_49, s243_51, s243_52, s243_53, s243_56, s243_157, s243_160, sx_push, tf, List.length_cons, List.length_nil, Option.some.injEq, exists_eq_left', Nat.reduceAdd, Nat.reduceLeDiff, true_and, and_true, true_or, or_true, Int.zero_add, Nat.zero_le, eq_self, ne_eq, not_true_eq_false, not_false_eq_true, false_implies, true_implies, implies_true, b2i_0, b2i_1, b2i_01, up_sc, sc_at, sc_sc, ite_true, ite_false, if_true, if_false, Nat.reduceEqDiff, reduceIte, e]
      repeat' (first | intro _ | refine And.intro ?_ ?_)
      all_goals first | omega | exact ih _ _ _ _ _ _ _ (by omega) (by omega) hb hK
    · simp only [if_pos e] at hK
      have z := hcr p p0 p1 e
      have fo := farO_in hO.2.1 p0 p1 z.1 z.2
      simp only [s243_39, s243_41, s243_44, s243_45, s243_48, s243_49, s243_51, s243_52, s243_53, s243_56, s243_59, s243_60, s243_62, s243_63, s243_65, s243_66, s243_69, s243_72, s243_74, s243_76, s243_78, s243_81, s243_83, s243_85, s243_87, s243_89, s243_92, s243_94, s243_95, s243_97, s243_98, sx_push, tf, List.length_cons, List.length_nil, Option.some.injEq, exists_eq_left', Nat.reduceAdd, Nat.reduceLeDiff, true_and, and_true, true_or, or_true, Int.zero_add, Nat.zero_le, eq_self, ne_eq, not_true_eq_false, not_false_eq_true, false_implies, true_implies, implies_true, b2i_0, b2i_1, b2i_01, up_sc, sc_at, sc_sc, ite_true, ite_false, if_true, if_false, Nat.reduceEqDiff, reduceIte, e, hce p p0 p1, x216o hO.2.1 p0 p1 z.1 z.2, x199]
      repeat' (first | intro _ | refine And.intro ?_ ?_)
      all_goals first | omega | skip
      · rw [if_neg (by omega)] at hK
        refine x243i hO.1 hce 40 0 0 (by omega) (by omega) (by omega) (by omega) ?_
        simp only [s243_148, s243_150, s243_152, s243_155, s243_157, s243_160, sx_push, tf, List.length_cons, List.length_nil, Option.some.injEq, exists_eq_left', Nat.reduceAdd, Nat.reduceLeDiff, true_and, and_true, true_or, or_true, Int.zero_add, Nat.zero_le, eq_self, ne_eq, not_true_eq_false, not_false_eq_true, false_implies, true_implies, implies_true, b2i_0, b2i_1, b2i_01, up_sc, sc_at, sc_sc, ite_true, ite_false, if_true, if_false, Nat.reduceEqDiff, reduceIte, x199]
        rw [show max b (farO (σ 150) p (ce p)) = b by omega]
        exact ⟨by omega, ih _ _ _ _ _ _ _ (by omega) (by omega) hb hK⟩
      · rw [if_pos ⟨e, by omega⟩] at hK
        refine x243i hO.1 hce 40 0 0 (by omega) (by omega) (by omega) (by omega) ?_
        simp only [s243_148, s243_150, s243_152, s243_155, s243_157, s243_160, sx_push, tf, List.length_cons, List.length_nil, Option.some.injEq, exists_eq_left', Nat.reduceAdd, Nat.reduceLeDiff, true_and, and_true, true_or, or_true, Int.zero_add, Nat.zero_le, eq_self, ne_eq, not_true_eq_false, not_false_eq_true, false_implies, true_implies, implies_true, b2i_0, b2i_1, b2i_01, up_sc, sc_at, sc_sc, ite_true, ite_false, if_true, if_false, Nat.reduceEqDiff, reduceIte, x199]
        rw [show max b (farO (σ 150) p (ce p)) = farO (σ 150) p (ce p) by omega]
        exact ⟨by omega, ih _ _ _ _ _ _ _ (by omega) (by omega) (by omega) hK⟩
theorem x243 (hO : invF (σ 150)) {m w : Int} (hK : ∀ σ', (∀ k, k ≠ 162 → k ≠ 163 → σ' k = σ k) → K (some (vI (if (1 ≤ m ∧ m ≤ cntF (σ 150) 40 0 0) ∧ (0 ≤ w ∧ w ≤ 2) then cenS (σ 150) m w else -1))) (T0 n) σ') : Rn 243 0 [some (vR 149), some (vI m), some (vI w), none, none, none, none, none, none, none, none] [] (T0 n) σ K := by
  have cl := cntF_in hO.1 40 0 0 (by omega) (by omega)
  have ts := TH_spec hO
  simp only [s243_0, s243_1, sx_push, tf, List.length_cons, List.length_nil, Option.some.injEq, exists_eq_left', Nat.reduceAdd, Nat.reduceLeDiff, true_and, and_true, true_or, or_true, Int.zero_add, Nat.zero_le, eq_self, ne_eq, not_true_eq_false, not_false_eq_true, false_implies, true_implies, implies_true, b2i_0, b2i_1, b2i_01, up_sc, sc_at, sc_sc, ite_true, ite_false, if_true, if_false, Nat.reduceEqDiff, reduceIte]
  refine x239 hO (fun σ1 a1 a2 => ?_)
  have hK := hK σ1 a1
  have g150 : σ1 150 = σ 150 := a1 150 (by decide) (by decide)
  by_cases e : (1 ≤ m ∧ m ≤ cntF (σ 150) 40 0 0) ∧ (0 ≤ w ∧ w ≤ 2)
  · rw [if_pos e] at hK
    unfold cenS at hK
    generalize hg : (TH (σ 150)).1 = g at *
    have hg1 : ∀ j, 0 ≤ j → j < m → (0 ≤ g j ∧ g j < 40) ∧ σ 150 (g j) = 1 := fun j a b => ts.2 j a (by omega)
    have hce : ∀ q, 0 ≤ q → q < 40 → ∀ K, Rn 242 0 [some (vR 149), some (vI q), some (vI m), none, none, none] [] (T0 n) σ1 K ↔ K (some (vI (ceT (σ 150) g m q))) (T0 n) σ1 := fun q q0 q1 K => by
      rw [x242 (g := g) (by rw [g150]; exact hO.2.1) q0 q1 e.1.1 (by omega) (fun j a b => ⟨(hg1 j a b).1, a2 j a (by omega)⟩), g150]
    have hcr : ∀ q, 0 ≤ q → q < 40 → σ1 150 q = 1 → 0 ≤ ceT (σ 150) g m q ∧ ceT (σ 150) g m q < 40 := fun q _ _ _ => (ceT_in e.1.1 hg1).1
    generalize ceT (σ 150) g m = ce at *
    simp only [s243_4, s243_5, s243_6, s243_7, s243_8, s243_11, s243_14, s243_15, s243_16, s243_17, s243_20, s243_23, s243_24, s243_25, s243_26, s243_28, s243_29, s243_31, s243_32, s243_34, s243_35, sx_push, tf, List.length_cons, List.length_nil, Option.some.injEq, exists_eq_left', Nat.reduceAdd, Nat.reduceLeDiff, true_and, and_true, true_or, or_true, Int.zero_add, Nat.zero_le, eq_self, ne_eq, not_true_eq_false, not_false_eq_true, false_implies, true_implies, implies_true, b2i_0, b2i_1, b2i_01, up_sc, sc_at, sc_sc, ite_true, ite_false, if_true, if_false, Nat.reduceEqDiff, reduceIte, x185]
    repeat' (first | intro _ | refine And.intro ?_ ?_)
    all_goals first | omega | skip
    refine x243l (by rw [g150]; exact hO) hce hcr 40 0 (-1) (-1) 0 _ _ _ (by omega) (by omega) (by omega) (fun u v x => ?_)
    rw [g150]
    generalize ffJ (σ 150) ce 40 0 (-1) (-1) = F at *
    generalize crJ (σ 150) ce 40 0 0 = C at *
    simp only [s243_163, s243_164, s243_167, s243_169, s243_172, s243_173, s243_174, s243_177, s243_179, s243_182, s243_184, sx_push, tf, List.length_cons, List.length_nil, Option.some.injEq, exists_eq_left', Nat.reduceAdd, Nat.reduceLeDiff, true_and, and_true, true_or, or_true, Int.zero_add, Nat.zero_le, eq_self, ne_eq, not_true_eq_false, not_false_eq_true, false_implies, true_implies, implies_true, b2i_0, b2i_1, b2i_01, up_sc, sc_at, sc_sc, ite_true, ite_false, if_true, if_false, Nat.reduceEqDiff, reduceIte]
    rcases (show w = 0 ∨ w = 1 ∨ w = 2 by omega) with z | z | z <;> subst z
    · rw [if_pos rfl] at hK
      repeat' (first | intro _ | refine And.intro ?_ ?_)
      all_goals first | omega | exact hK | contradiction
    · rw [if_neg (by decide), if_pos rfl] at hK
      repeat' (first | intro _ | refine And.intro ?_ ?_)
      all_goals first | omega | exact hK | contradiction
    · rw [if_neg (by decide), if_neg (by decide)] at hK
      repeat' (first | intro _ | refine And.intro ?_ ?_)
      all_goals first | omega | exact hK | contradiction
  · rw [if_neg e] at hK
    simp only [s243_4, s243_5, s243_6, s243_7, s243_8, s243_11, s243_14, s243_15, s243_16, s243_17, s243_20, s243_23, s243_24, sx_push, tf, List.length_cons, List.length_nil, Option.some.injEq, exists_eq_left', Nat.reduceAdd, Nat.reduceLeDiff, true_and, and_true, true_or, or_true, Int.zero_add, Nat.zero_le, eq_self, ne_eq, not_true_eq_false, not_false_eq_true, false_implies, true_implies, implies_true, b2i_0, b2i_1, b2i_01, up_sc, sc_at, sc_sc, ite_true, ite_false, if_true, if_false, Nat.reduceEqDiff, reduceIte, x185]
    repeat' (first | intro _ | refine And.intro ?_ ?_)
    all_goals first | omega | exact hK
theorem x241 (hO : invF (σ 150)) {p m : Int} (hK : ∀ σ', (∀ k, k ≠ 162 → k ≠ 163 → σ' k = σ k) → K (some (vI (if ((0 ≤ p ∧ p < 40) ∧ σ 150 p = 1) ∧ (1 ≤ m ∧ m ≤ cntF (σ 150) 40 0 0) then ceT (σ 150) (TH (σ 150)).1 m p else -1))) (T0 n) σ') : Rn 241 0 [some (vR 149), some (vI p), some (vI m), none] [] (T0 n) σ K := by
  have cl := cntF_in hO.1 40 0 0 (by omega) (by omega)
  have ts := TH_spec hO
  simp only [s241_0, s241_1, sx_push, tf, List.length_cons, List.length_nil, Option.some.injEq, exists_eq_left', Nat.reduceAdd, Nat.reduceLeDiff, true_and, and_true, true_or, or_true, Int.zero_add, Nat.zero_le, eq_self, ne_eq, not_true_eq_false, not_false_eq_true, false_implies, true_implies, implies_true, b2i_0, b2i_1, b2i_01, up_sc, sc_at, sc_sc, ite_true, ite_false, if_true, if_false, Nat.reduceEqDiff, reduceIte]
  refine x239 hO (fun σ1 a1 a2 => ?_)
  have hK := hK σ1 a1
  have g150 : σ1 150 = σ 150 := a1 150 (by decide) (by decide)
  by_cases e : ((0 ≤ p ∧ p < 40) ∧ σ 150 p = 1) ∧ (1 ≤ m ∧ m ≤ cntF (σ 150) 40 0 0)
  · rw [if_pos e] at hK
    generalize hg : (TH (σ 150)).1 = g at *
    have hce := fun K => x242 (n := n) (σ := σ1) (K := K) (g := g) (by rw [g150]; exact hO.2.1) e.1.1.1 e.1.1.2 e.2.1 (by omega) (fun j a b => ⟨(ts.2 j a (by omega)).1, a2 j a (by omega)⟩)
    rw [g150] at hce
    simp only [s241_4, s241_5, s241_6, s241_7, s241_10, s241_13, s241_14, s241_15, s241_16, s241_19, s241_22, s241_23, s241_24, s241_25, s241_28, s241_31, s241_32, sx_push, tf, List.length_cons, List.length_nil, Option.some.injEq, exists_eq_left', Nat.reduceAdd, Nat.reduceLeDiff, true_and, and_true, true_or, or_true, Int.zero_add, Nat.zero_le, eq_self, ne_eq, not_true_eq_false, not_false_eq_true, false_implies, true_implies, implies_true, b2i_0, b2i_1, b2i_01, up_sc, sc_at, sc_sc, ite_true, ite_false, if_true, if_false, Nat.reduceEqDiff, reduceIte, x205, x185, hce, g150]
    repeat' (first | intro _ | refine And.intro ?_ ?_)
    all_goals first | omega | exact hK
  · rw [if_neg e] at hK
    simp only [s241_4, s241_5, s241_6, s241_7, s241_10, s241_13, s241_14, s241_15, s241_16, s241_19, s241_31, s241_32, sx_push, tf, List.length_cons, List.length_nil, Option.some.injEq, exists_eq_left', Nat.reduceAdd, Nat.reduceLeDiff, true_and, and_true, true_or, or_true, Int.zero_add, Nat.zero_le, eq_self, ne_eq, not_true_eq_false, not_false_eq_true, false_implies, true_implies, implies_true, b2i_0, b2i_1, b2i_01, up_sc, sc_at, sc_sc, ite_true, ite_false, if_true, if_false, Nat.reduceEqDiff, reduceIte, x205, x185, g150]
    repeat' (first | intro _ | refine And.intro ?_ ?_)
    all_goals first | omega | exact hK
end T3
