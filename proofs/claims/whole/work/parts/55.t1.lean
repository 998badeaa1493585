/-! thinned out: what it answers, and the reference -/
def lfJ (f g : Int → Int) (p : Int) : Nat → Int → Int → Int
  | 0, _, a => a
  | m + 1, i, a => lfJ f g p m (i + 1) (if farO f p (g i) < a then farO f p (g i) else a)
theorem lfJ_cg {f g h : Int → Int} {p : Int} : ∀ (m : Nat) (i a : Int), (∀ j, i ≤ j → j < i + m → g j = h j) → lfJ f g p m i a = lfJ f h p m i a := by
  intro m
  induction m with
  | zero => intro i a _; rfl
  | succ m ih =>
    intro i a e
    unfold lfJ
    rw [e i (by omega) (by omega)]
    exact ih _ _ (fun j x y => e j (by omega) (by omega))
theorem lfJ_sn {f g : Int → Int} {p : Int} : ∀ (m : Nat) (i a : Int), lfJ f g p (m + 1) i a = if farO f p (g (i + m)) < lfJ f g p m i a then farO f p (g (i + m)) else lfJ f g p m i a := by
  intro m
  induction m with
  | zero =>
    intro i a
    show (if farO f p (g i) < a then farO f p (g i) else a) = if farO f p (g (i + ((0 : Nat) : Int))) < a then farO f p (g (i + ((0 : Nat) : Int))) else a
    rw [show i + ((0 : Nat) : Int) = i by omega]
  | succ m ih =>
    intro i a
    rw [show lfJ f g p (m + 1 + 1) i a = lfJ f g p (m + 1) (i + 1) (if farO f p (g i) < a then farO f p (g i) else a) from rfl, ih]
    rw [show i + 1 + (m : Int) = i + ((m + 1 : Nat) : Int) by omega]
    rfl
def lsT (f g : Int → Int) (n p : Int) : Int := lfJ f g p n.toNat 0 1000000
def nxJ (f g tk : Int → Int) (n : Int) : Nat → Int → Int → Int
  | 0, _, b => b
  | k + 1, p, b => nxJ f g tk n k (p + 1) (if (f p = 1 ∧ tk p ≠ 1) ∧ (b = -1 ∨ lsT f g n b < lsT f g n p) then p else b)
def nxT (f g tk : Int → Int) (n : Int) : Int := nxJ f g tk n 40 0 (-1)
theorem nxJ_in (f g tk : Int → Int) (n : Int) : ∀ (k : Nat) (p b : Int), p + k = 40 → 0 ≤ p → (b = -1 ∨ (0 ≤ b ∧ b < 40 ∧ f b = 1 ∧ tk b ≠ 1)) → (nxJ f g tk n k p b = -1 ∧ b = -1 ∧ ∀ q, p ≤ q → q < 40 → ¬ (f q = 1 ∧ tk q ≠ 1)) ∨ (0 ≤ nxJ f g tk n k p b ∧ nxJ f g tk n k p b < 40 ∧ f (nxJ f g tk n k p b) = 1 ∧ tk (nxJ f g tk n k p b) ≠ 1) := by
  intro k
  induction k with
  | zero =>
    intro p b hp p0 hb
    rcases hb with e | e
    · exact Or.inl ⟨e, e, fun q a b => by omega⟩
    · exact Or.inr e
  | succ k ih =>
    intro p b hp p0 hb
    unfold nxJ
    by_cases c : (f p = 1 ∧ tk p ≠ 1) ∧ (b = -1 ∨ lsT f g n b < lsT f g n p)
    · rw [if_pos c]
      rcases ih (p + 1) p (by omega) (by omega) (Or.inr ⟨p0, by omega, c.1.1, c.1.2⟩) with z | z
      · omega
      · exact Or.inr z
    · rw [if_neg c]
      rcases ih (p + 1) b (by omega) (by omega) hb with ⟨z1, z2, z3⟩ | z
      · refine Or.inl ⟨z1, z2, fun q a b => ?_⟩
        by_cases e : q = p
        · subst e; exact fun y => c ⟨y, Or.inl z2⟩
        · exact z3 q (by omega) b
      · exact Or.inr z
theorem nxT_in (f g tk : Int → Int) (n : Int) : (nxT f g tk n = -1 ∧ ∀ q, 0 ≤ q → q < 40 → f q = 1 → tk q = 1) ∨ ((0 ≤ nxT f g tk n ∧ nxT f g tk n < 40) ∧ f (nxT f g tk n) = 1 ∧ tk (nxT f g tk n) ≠ 1) := by
  rcases nxJ_in f g tk n 40 0 (-1) (by omega) (by omega) (Or.inl rfl) with ⟨z1, z2, z3⟩ | ⟨z1, z2, z3, z4⟩
  · exact Or.inl ⟨z1, fun q a b c => Classical.not_not.mp (fun y => z3 q a b ⟨c, y⟩)⟩
  · exact Or.inr ⟨⟨z1, z2⟩, z3, z4⟩
def thS (f : Int → Int) : Nat → (Int → Int) → (Int → Int) → Int → Int → (Int → Int) × Int
  | 0, g, _, n, _ => (g, n)
  | m + 1, g, tk, n, nx => if nx = -1 then (g, n) else thS f m (up1 g n nx) (up1 tk nx 1) (n + 1) (nxT f (up1 g n nx) (up1 tk nx 1) (n + 1))
/-- the points as thinned out, and how many -/
def TH (f : Int → Int) : (Int → Int) × Int := thS f 41 (fun _ => 0) (fun _ => 0) 0 (rootF f 40 0)
def c1 (tk : Int → Int) : Int := cnt (fun p => decide (tk p = 1)) 40 0 0
theorem c1_up {tk : Int → Int} {p : Int} (p0 : 0 ≤ p) (p1 : p < 40) (h : tk p ≠ 1) : c1 (up1 tk p 1) = c1 tk + 1 := by
  unfold c1
  exact cnt_one (r := p) (by simp [h]) (by simp [up1]) 40 0 0 p0 (by omega) (fun q a b e => by simp [up1, e])
theorem c1_le {f tk : Int → Int} (h01 : th01 f) (h : ∀ p, 0 ≤ p → p < 40 → tk p = 1 → f p = 1) : ∀ (k : Nat) (p a : Int), 0 ≤ p → p + k ≤ 40 → cnt (fun p => decide (tk p = 1)) k p a ≤ cntF f k p a := by
  intro k
  induction k with
  | zero => intro p a _ _; unfold cnt cntF; omega
  | succ k ih =>
    intro p a p0 p1
    unfold cnt cntF
    have z := h01 p p0 (by omega)
    have z2 := h p p0 (by omega)
    by_cases e : tk p = 1
    · rw [if_pos (by simp [e]), z2 e]; exact ih _ _ (by omega) (by omega)
    · rw [if_neg (by simp [e])]
      have := ih (p + 1) (a + f p) (by omega) (by omega)
      have e2 := cnt_add (fun p => decide (tk p = 1)) k (p + 1) a (f p)
      omega
theorem c1_eq {f tk : Int → Int} (h01 : th01 f) (h : ∀ p, 0 ≤ p → p < 40 → tk p = 1 → f p = 1) (h2 : ∀ p, 0 ≤ p → p < 40 → f p = 1 → tk p = 1) : ∀ (k : Nat) (p a : Int), 0 ≤ p → p + k ≤ 40 → cnt (fun p => decide (tk p = 1)) k p a = cntF f k p a := by
  intro k
  induction k with
  | zero => intro p a _ _; rfl
  | succ k ih =>
    intro p a p0 p1
    unfold cnt cntF
    have z := h p p0 (by omega)
    have z2 := h2 p p0 (by omega)
    by_cases e : tk p = 1
    · rw [if_pos (by simp [e]), z e]; exact ih _ _ (by omega) (by omega)
    · rw [if_neg (by simp [e])]
      rcases h01 p p0 (by omega) with y | y
      · rw [y, Int.add_zero]; exact ih _ _ (by omega) (by omega)
      · exact absurd (z2 y) e
/-- while points are thinned out: those taken, in order -/
def iT (f g tk : Int → Int) (n nx : Int) : Prop := (∀ p, 0 ≤ p → p < 40 → (tk p = 0 ∨ tk p = 1) ∧ (tk p = 1 → f p = 1)) ∧ n = c1 tk ∧ 0 ≤ n ∧ (∀ j, 0 ≤ j → j < n → (0 ≤ g j ∧ g j < 40) ∧ f (g j) = 1) ∧ ((nx = -1 ∧ ∀ q, 0 ≤ q → q < 40 → f q = 1 → tk q = 1) ∨ ((0 ≤ nx ∧ nx < 40) ∧ f nx = 1 ∧ tk nx ≠ 1))
theorem iT_n {f g tk : Int → Int} {n nx : Int} (h01 : th01 f) (h : iT f g tk n nx) : n ≤ cntF f 40 0 0 ∧ (nx = -1 → n = cntF f 40 0 0) ∧ (nx ≠ -1 → n < cntF f 40 0 0) := by
  obtain ⟨a1, a2, a3, a4, a5⟩ := h
  have le := c1_le h01 (fun p p0 p1 z => (a1 p p0 p1).2 z) 40 0 0 (by omega) (by omega)
  refine ⟨by unfold c1 at a2; omega, fun z => ?_, fun z => ?_⟩
  · rcases a5 with ⟨y1, y2⟩ | y
    · have := c1_eq h01 (fun p p0 p1 z => (a1 p p0 p1).2 z) y2 40 0 0 (by omega) (by omega)
      unfold c1 at a2; omega
    · omega
  · rcases a5 with ⟨y1, y2⟩ | ⟨y1, y2, y3⟩
    · omega
    · have u := c1_up (tk := tk) y1.1 y1.2 y3
      have le2 := c1_le h01 (tk := up1 tk nx 1) (fun p p0 p1 z => by
        by_cases e : p = nx
        · rw [e]; exact y2
        · rw [up1_n e] at z; exact (a1 p p0 p1).2 z) 40 0 0 (by omega) (by omega)
      unfold c1 at a2 u; omega
theorem iT_s {f g tk : Int → Int} {n nx : Int} (h : iT f g tk n nx) (hn : nx ≠ -1) : iT f (up1 g n nx) (up1 tk nx 1) (n + 1) (nxT f (up1 g n nx) (up1 tk nx 1) (n + 1)) := by
  obtain ⟨a1, a2, a3, a4, a5⟩ := h
  rcases a5 with ⟨y1, y2⟩ | ⟨y1, y2, y3⟩
  · exact absurd y1 hn
  · refine ⟨fun p p0 p1 => ?_, by rw [c1_up y1.1 y1.2 y3, a2], by omega, fun j j0 j1 => ?_, nxT_in _ _ _ _⟩
    · by_cases e : p = nx
      · rw [e, up1_s]; exact ⟨Or.inr rfl, fun _ => y2⟩
      · rw [up1_n e]; exact a1 p p0 p1
    · by_cases e : j = n
      · rw [e, up1_s]; exact ⟨y1, y2⟩
      · rw [up1_n e]; exact a4 j j0 (by omega)
theorem iT_0 {f : Int → Int} (hi : invF f) : iT f (fun _ => 0) (fun _ => 0) 0 (rootF f 40 0) := by
  refine ⟨fun p _ _ => ⟨Or.inl rfl, fun z => absurd z (show ¬ (0 : Int) = 1 by decide)⟩, ?_, by omega, fun j a b => by omega, ?_⟩
  · unfold c1
    rw [cnt_congr (d := fun _ => false) 40 0 0 (fun q _ _ => by simp)]
    decide
  · by_cases e : rootF f 40 0 = -1
    · exact Or.inl ⟨e, fun q a b c => absurd c (root_m1 hi e q a b)⟩
    · have := root_n1 hi e
      exact Or.inr ⟨this.1, this.2.1, show ¬ (0 : Int) = 1 by decide⟩
theorem thS_spec {f : Int → Int} (h01 : th01 f) : ∀ (m : Nat) (g tk : Int → Int) (n nx : Int), n + m = 41 → iT f g tk n nx → (thS f m g tk n nx).2 = cntF f 40 0 0 ∧ ∀ j, 0 ≤ j → j < cntF f 40 0 0 → (0 ≤ (thS f m g tk n nx).1 j ∧ (thS f m g tk n nx).1 j < 40) ∧ f ((thS f m g tk n nx).1 j) = 1 := by
  intro m
  induction m with
  | zero =>
    intro g tk n nx hm h
    have := iT_n h01 h
    have := cntF_in h01 40 0 0 (by omega) (by omega)
    omega
  | succ m ih =>
    intro g tk n nx hm h
    have hn := iT_n h01 h
    unfold thS
    by_cases e : nx = -1
    · rw [if_pos e]
      have en := hn.2.1 e
      exact ⟨en, fun j a b => h.2.2.2.1 j a (by omega)⟩
    · rw [if_neg e]
      exact ih _ _ _ _ (by omega) (iT_s h e)
theorem TH_spec {f : Int → Int} (hi : invF f) : (TH f).2 = cntF f 40 0 0 ∧ ∀ j, 0 ≤ j → j < cntF f 40 0 0 → (0 ≤ (TH f).1 j ∧ (TH f).1 j < 40) ∧ f ((TH f).1 j) = 1 := thS_spec hi.1 41 _ _ 0 _ (by omega) (iT_0 hi)
theorem lfJ_in {f g : Int → Int} (hw : wfc f) {p : Int} (p0 : 0 ≤ p) (p1 : p < 40) : ∀ (m : Nat) (i a : Int), (∀ j, i ≤ j → j < i + m → 0 ≤ g j ∧ g j < 40) → 0 ≤ a → a ≤ 1000000 → 0 ≤ lfJ f g p m i a ∧ lfJ f g p m i a ≤ 1000000 := by
  intro m
  induction m with
  | zero => intro i a _ h1 h2; exact ⟨h1, h2⟩
  | succ m ih =>
    intro i a h h1 h2
    have z := h i (by omega) (by omega)
    have := farO_in hw p0 p1 z.1 z.2
    unfold lfJ
    refine ih _ _ (fun j x y => h j (by omega) (by omega)) ?_ ?_ <;> split <;> omega
section T1
variable {n : Nat} {σ : sxS} {K : Option sxV → sxT → sxS → Prop} {f g tk : Int → Int}
theorem x240l (hw : wfc (σ 150)) {p m' : Int} (p0 : 0 ≤ p) (p1 : p < 40) (hm : m' ≤ 40) (hg : ∀ j, 0 ≤ j → j < m' → 0 ≤ σ 162 j ∧ σ 162 j < 40) : ∀ (m : Nat) (i a : Int), i + m = m' → 0 ≤ i → 0 ≤ a → a ≤ 1000000 → K (some (vI (lfJ (σ 150) (σ 162) p m i a))) (T0 n) σ → Rn 240 6 [some (vR 149), some (vI p), some (vI m'), some (vI a), some (vI i)] [] (T0 n) σ K := by
  intro m
  induction m with
  | zero =>
    intro i a hi i0 a0 a1 hK
    rw [s240_6]
    simp only [s240_0, s240_2, s240_3, s240_4, s240_8, s240_9, s240_12, s240_13, s240_14, s240_15, s240_18, s240_20, s240_21, s240_24, s240_25, s240_28, s240_29, s240_30, s240_31, s240_34, s240_36, s240_37, s240_40, s240_43, s240_44, s240_45, s240_48, s240_51, s240_52, sx_push, tf, List.length_cons, List.length_nil, Option.some.injEq, exists_eq_left', Nat.reduceAdd, Nat.reduceLeDiff, true_and, and_true, true_or, or_true, Int.zero_add, Nat.zero_le, eq_self, ne_eq, not_true_eq_false, not_false_eq_true, false_implies, true_implies, implies_true, b2i_0, b2i_1, b2i_01, up_sc, sc_at, sc_sc, ite_true, ite_false, if_true, if_false, Nat.reduceEqDiff, reduceIte]
    repeat' (first | intro _ | refine And.intro ?_ ?_)
    all_goals first | omega | exact hK
  | succ m ih =>
    intro i a hi i0 a0 a1 hK
    have z := hg i i0 (by omega)
    have fo := farO_in hw p0 p1 z.1 z.2
    rw [s240_6]
    unfold lfJ at hK
    simp only [s240_0, s240_2, s240_3, s240_4, s240_8, s240_9, s240_12, s240_13, s240_14, s240_15, s240_18, s240_20, s240_21, s240_24, s240_25, s240_28, s240_29, s240_30, s240_31, s240_34, s240_36, s240_37, s240_40, s240_43, s240_44, s240_45, s240_48, s240_51, s240_52, sx_push, tf, List.length_cons, List.length_nil, Option.some.injEq, exists_eq_left', Nat.reduceAdd, Nat.reduceLeDiff, true_and, and_true, true_or, or_true, Int.zero_add, Nat.zero_le, eq_self, ne_eq, not_true_eq_false, not_false_eq_true, false_implies, true_implies, implies_true, b2i_0, b2i_1, b2i_01, up_sc, sc_at, sc_sc, ite_true, ite_false, if_true, if_false, Nat.reduceEqDiff, reduceIte, x216o hw p0 p1 z.1 z.2]
    repeat' (first | intro _ | refine And.intro ?_ ?_)
    all_goals first | omega | (split at hK <;> first | omega | exact ih _ _ (by omega) (by omega) (by omega) (by omega) hK)
theorem x240 (hw : wfc (σ 150)) {p m' : Int} (p0 : 0 ≤ p) (p1 : p < 40) (hm0 : 0 ≤ m') (hm : m' ≤ 40) (hg : ∀ j, 0 ≤ j → j < m' → (0 ≤ g j ∧ g j < 40) ∧ σ 162 j = g j) : Rn 240 0 [some (vR 149), some (vI p), some (vI m'), none, none] [] (T0 n) σ K ↔ K (some (vI (lsT (σ 150) g m' p))) (T0 n) σ := by
  refine Rn_iff fun K hK => ?_
  unfold lsT at hK
  rw [← lfJ_cg (g := σ 162) m'.toNat 0 1000000 (fun j a b => (hg j a (by omega)).2)] at hK
  simp only [s240_0, s240_2, s240_3, s240_4, s240_8, s240_9, s240_12, s240_13, s240_14, s240_15, s240_18, s240_20, s240_21, s240_24, s240_25, s240_28, s240_29, s240_30, s240_31, s240_34, s240_36, s240_37, s240_40, s240_43, s240_44, s240_45, s240_48, s240_51, s240_52, sx_push, tf, List.length_cons, List.length_nil, Option.some.injEq, exists_eq_left', Nat.reduceAdd, Nat.reduceLeDiff, true_and, and_true, true_or, or_true, Int.zero_add, Nat.zero_le, eq_self, ne_eq, not_true_eq_false, not_false_eq_true, false_implies, true_implies, implies_true, b2i_0, b2i_1, b2i_01, up_sc, sc_at, sc_sc, ite_true, ite_false, if_true, if_false, Nat.reduceEqDiff, reduceIte]
  exact x240l hw p0 p1 hm (fun j a b => by rw [(hg j a b).2]; exact (hg j a b).1) m'.toNat 0 1000000 (by omega) (by omega) (by omega) (by omega) hK
theorem x239i (h01 : th01 (σ 150)) (hw : wfc (σ 150)) {m' : Int} (hm0 : 0 ≤ m') (hm : m' ≤ 40) (hg : ∀ j, 0 ≤ j → j < m' → (0 ≤ g j ∧ g j < 40) ∧ σ 162 j = g j) (ht : ∀ p, 0 ≤ p → p < 40 → σ 163 p = tk p) : ∀ (k : Nat) (p b : Int), p + k = 40 → 0 ≤ p → (b = -1 ∨ (0 ≤ b ∧ b < 40)) → Rn 239 28 [some (vR 149), some (vI m'), some (vI (nxJ (σ 150) g tk m' k p b)), some (vI 40)] [] (T0 n) σ K → Rn 239 54 [some (vR 149), some (vI m'), some (vI b), some (vI p)] [] (T0 n) σ K := by
  intro k
  induction k with
  | zero =>
    intro p b hp p0 hb hK
    obtain rfl : p = 40 := by omega
    rw [s239_54]
    simp only [s239_55, s239_57, s239_112, sx_push, tf, List.length_cons, List.length_nil, Option.some.injEq, exists_eq_left', Nat.reduceAdd, Nat.reduceLeDiff, true_and, and_true, true_or, or_true, Int.zero_add, Nat.zero_le, eq_self, ne_eq, not_true_eq_false, not_false_eq_true, false_implies, true_implies, implies_true, b2i_0, b2i_1, b2i_01, up_sc, sc_at, sc_sc, ite_true, ite_false, if_true, if_false, Nat.reduceEqDiff, reduceIte]
    repeat' (first | intro _ | refine And.intro ?_ ?_)
    all_goals first | omega | exact hK
  | succ k ih =>
    intro p b hp p0 hb hK
    have p1 : p < 40 := by omega
    rw [s239_54]
    unfold nxJ at hK
    rcases h01 p p0 p1 with e | e
    · rw [if_neg (by omega)] at hK
      simp only [s239_55, s239_57, s239_60, s239_61, s239_64, s239_65, s239_66, s239_67, s239_68, s239_106, s239_109, sx_push, tf, List.length_cons, List.length_nil, Option.some.injEq, exists_eq_left', Nat.reduceAdd, Nat.reduceLeDiff, true_and, and_true, true_or, or_true, Int.zero_add, Nat.zero_le, eq_self, ne_eq, not_true_eq_false, not_false_eq_true, false_implies, true_implies, implies_true, b2i_0, b2i_1, b2i_01, up_sc, sc_at, sc_sc, ite_true, ite_false, if_true, if_false, Nat.reduceEqDiff, reduceIte, e]
      repeat' (first | intro _ | refine And.intro ?_ ?_)
      all_goals first | omega | exact ih _ _ (by omega) (by omega) hb hK
    · by_cases e2 : tk p = 1
      · rw [if_neg (fun z => z.1.2 e2)] at hK
        simp only [s239_55, s239_57, s239_60, s239_61, s239_64, s239_65, s239_66, s239_67, s239_68, s239_71, s239_72, s239_75, s239_76, s239_77, s239_78, s239_81, s239_106, s239_109, sx_push, tf, List.length_cons, List.length_nil, Option.some.injEq, exists_eq_left', Nat.reduceAdd, Nat.reduceLeDiff, true_and, and_true, true_or, or_true, Int.zero_add, Nat.zero_le, eq_self, ne_eq, not_true_eq_false, not_false_eq_true, false_implies, true_implies, implies_true, b2i_0, b2i_1, b2i_01, up_sc, sc_at, sc_sc, ite_true, ite_false, if_true, if_false, Nat.reduceEqDiff, reduceIte, e, ht p p0 p1, e2]
        repeat' (first | intro _ | refine And.intro ?_ ?_)
        all_goals first | omega | contradiction | exact ih _ _ (by omega) (by omega) hb hK
      · rcases hb with rfl | ⟨b0, b1⟩
        · rw [if_pos ⟨⟨e, e2⟩, Or.inl rfl⟩] at hK
          simp only [s239_55, s239_57, s239_60, s239_61, s239_64, s239_65, s239_66, s239_67, s239_68, s239_71, s239_72, s239_75, s239_76, s239_77, s239_78, s239_81, s239_84, s239_85, s239_86, s239_104, s239_105, s239_106, s239_109, sx_push, tf, List.length_cons, List.length_nil, Option.some.injEq, exists_eq_left', Nat.reduceAdd, Nat.reduceLeDiff, true_and, and_true, true_or, or_true, Int.zero_add, Nat.zero_le, eq_self, ne_eq, not_true_eq_false, not_false_eq_true, false_implies, true_implies, implies_true, b2i_0, b2i_1, b2i_01, up_sc, sc_at, sc_sc, ite_true, ite_false, if_true, if_false, Nat.reduceEqDiff, reduceIte, e, ht p p0 p1]
          repeat' (first | intro _ | refine And.intro ?_ ?_)
          all_goals first | omega | contradiction | exact ih _ _ (by omega) (by omega) (Or.inr ⟨p0, p1⟩) hK
        · simp only [s239_55, s239_57, s239_60, s239_61, s239_64, s239_65, s239_66, s239_67, s239_68, s239_71, s239_72, s239_75, s239_76, s239_77, s239_78, s239_81, s239_84, s239_85, s239_86, s239_89, s239_90, s239_91, s239_92, s239_95, s239_96, s239_97, s239_98, s239_101, s239_104, s239_105, s239_106, s239_109, sx_push, tf, List.length_cons, List.length_nil, Option.some.injEq, exists_eq_left', Nat.reduceAdd, Nat.reduceLeDiff, true_and, and_true, true_or, or_true, Int.zero_add, Nat.zero_le, eq_self, ne_eq, not_true_eq_false, not_false_eq_true, false_implies, true_implies, implies_true, b2i_0, b2i_1, b2i_01, up_sc, sc_at, sc_sc, ite_true, ite_false, if_true, if_false, Nat.reduceEqDiff, reduceIte, e, ht p p0 p1, x240 hw p0 p1 hm0 hm hg, x240 hw b0 b1 hm0 hm hg]
          by_cases e3 : lsT (σ 150) g m' b < lsT (σ 150) g m' p
          · rw [if_pos ⟨⟨e, e2⟩, Or.inr e3⟩] at hK
            repeat' (first | intro _ | refine And.intro ?_ ?_)
            all_goals first | omega | contradiction | exact ih _ _ (by omega) (by omega) (Or.inr ⟨p0, p1⟩) hK
          · rw [if_neg (fun z => z.2.elim (by omega) e3)] at hK
            repeat' (first | intro _ | refine And.intro ?_ ?_)
            all_goals first | omega | contradiction | exact ih _ _ (by omega) (by omega) (Or.inr ⟨b0, b1⟩) hK
theorem x239l {f : Int → Int} (hi : invF f) : ∀ (m : Nat) (σ : sxS) (g tk : Int → Int) (n' nx : Int) (u : Option sxV), n' + m = 41 → iT f g tk n' nx → σ 150 = f → (∀ j, 0 ≤ j → j < n' → σ 162 j = g j) → (∀ p, 0 ≤ p → p < 40 → σ 163 p = tk p) → (∀ σ', (∀ k, k ≠ 162 → k ≠ 163 → σ' k = σ k) → (∀ j, 0 ≤ j → j < cntF f 40 0 0 → σ' 162 j = (thS f m g tk n' nx).1 j) → K (some (vI (cntF f 40 0 0))) (T0 n) σ') → Rn 239 28 [some (vR 149), some (vI n'), some (vI nx), u] [] (T0 n) σ K := by
  intro m
  induction m with
  | zero =>
    intro σ g tk n' nx u hm h _ _ _ _
    have := iT_n hi.1 h
    have := cntF_in hi.1 40 0 0 (by omega) (by omega)
    omega
  | succ m ih =>
    intro σ g tk n' nx u hm h q1 q2 q3 hK
    have hn := iT_n hi.1 h
    have cl := cntF_in hi.1 40 0 0 (by omega) (by omega)
    have h3 := h.2.2.1
    rw [s239_28]
    unfold thS at hK
    by_cases e : nx = -1
    · simp only [if_pos e] at hK
      have en := hn.2.1 e
      have := hK σ (fun _ _ _ => rfl) (fun j a b => q2 j a (by omega))
      rw [← en] at this
      simp only [s239_29, s239_30, s239_115, s239_116, sx_push, tf, List.length_cons, List.length_nil, Option.some.injEq, exists_eq_left', Nat.reduceAdd, Nat.reduceLeDiff, true_and, and_true, true_or, or_true, Int.zero_add, Nat.zero_le, eq_self, ne_eq, not_true_eq_false, not_false_eq_true, false_implies, true_implies, implies_true, b2i_0, b2i_1, b2i_01, up_sc, sc_at, sc_sc, ite_true, ite_false, if_true, if_false, Nat.reduceEqDiff, reduceIte]
      repeat' (first | intro _ | refine And.intro ?_ ?_)
      all_goals first | omega | exact this
    · simp only [if_neg e] at hK
      have hs := iT_s h e
      have nxr : (0 ≤ nx ∧ nx < 40) ∧ f nx = 1 ∧ tk nx ≠ 1 := by
        rcases h.2.2.2.2 with z | z
        · exact absurd z.1 e
        · exact z
      have ln := hn.2.2 e
      simp only [s239_29, s239_30, s239_33, s239_34, s239_37, s239_38, s239_39, s239_40, s239_41, s239_44, s239_45, s239_46, s239_47, s239_50, s239_51, s239_52, s239_53, sx_push, tf, List.length_cons, List.length_nil, Option.some.injEq, exists_eq_left', Nat.reduceAdd, Nat.reduceLeDiff, true_and, and_true, true_or, or_true, Int.zero_add, Nat.zero_le, eq_self, ne_eq, not_true_eq_false, not_false_eq_true, false_implies, true_implies, implies_true, b2i_0, b2i_1, b2i_01, up_sc, sc_at, sc_sc, ite_true, ite_false, if_true, if_false, Nat.reduceEqDiff, reduceIte]
      repeat' (first | intro _ | refine And.intro ?_ ?_)
      all_goals first | omega | skip
      have s150 : sc (sc σ 162 (up1 (σ 162) n' nx)) 163 (up1 (σ 163) nx 1) 150 = f := by simp [sc_at]; exact q1
      refine x239i (g := up1 g n' nx) (tk := up1 tk nx 1) (by rw [s150]; exact hi.1) (by rw [s150]; exact hi.2.1) (by omega) (by omega) (fun j a b => ⟨(hs.2.2.2.1 j a b).1, ?_⟩) (fun p p0 p1 => ?_) 40 0 (-1) (by omega) (by omega) (Or.inl rfl) ?_
      · simp only [sc_at, Nat.reduceEqDiff, reduceIte]
        unfold up1
        split
        · rfl
        · exact q2 j a (by omega)
      · simp only [sc_at, Nat.reduceEqDiff, reduceIte]
        unfold up1
        split
        · rfl
        · exact q3 p p0 p1
      · rw [s150]
        refine ih _ (up1 g n' nx) (up1 tk nx 1) (n' + 1) (nxT f (up1 g n' nx) (up1 tk nx 1) (n' + 1)) _ (by omega) hs s150 (fun j a b => ?_) (fun p p0 p1 => ?_) (fun σ' a1 a2 => hK σ' (fun k k1 k2 => ?_) a2)
        · simp only [sc_at, Nat.reduceEqDiff, reduceIte]
          unfold up1
          split
          · rfl
          · exact q2 j a (by omega)
        · simp only [sc_at, Nat.reduceEqDiff, reduceIte]
          unfold up1
          split
          · rfl
          · exact q3 p p0 p1
        · rw [a1 k k1 k2, sc_at, if_neg k2, sc_at, if_neg k1]
theorem x239a : ∀ (k : Nat) (i : Int) (u : Option sxV), i + k = 40 → 0 ≤ i → Rn 239 23 [some (vR 149), some (vI 0), some (vI 40), u] [] (T0 n) (sc σ 163 (cpF (fun _ => 0) (σ 163) 40)) K → Rn 239 4 [some (vR 149), some (vI 0), some (vI i), u] [] (T0 n) (sc σ 163 (cpF (fun _ => 0) (σ 163) i)) K := by
  intro k
  induction k with
  | zero =>
    intro i u hi h0 hK
    obtain rfl : i = 40 := by omega
    rw [s239_4]
    simp only [s239_5, s239_7, s239_10, s239_11, s239_14, s239_15, s239_16, s239_17, s239_20, sx_push, tf, List.length_cons, List.length_nil, Option.some.injEq, exists_eq_left', Nat.reduceAdd, Nat.reduceLeDiff, true_and, and_true, true_or, or_true, Int.zero_add, Nat.zero_le, eq_self, ne_eq, not_true_eq_false, not_false_eq_true, false_implies, true_implies, implies_true, b2i_0, b2i_1, b2i_01, up_sc, sc_at, sc_sc, ite_true, ite_false, if_true, if_false, Nat.reduceEqDiff, reduceIte]
    repeat' (first | intro _ | refine And.intro ?_ ?_)
    all_goals first | exact hK | omega
  | succ k ih =>
    intro i u hi h0 hK
    rw [s239_4]
    simp only [s239_5, s239_7, s239_10, s239_11, s239_14, s239_15, s239_16, s239_17, s239_20, sx_push, tf, List.length_cons, List.length_nil, Option.some.injEq, exists_eq_left', Nat.reduceAdd, Nat.reduceLeDiff, true_and, and_true, true_or, or_true, Int.zero_add, Nat.zero_le, eq_self, ne_eq, not_true_eq_false, not_false_eq_true, false_implies, true_implies, implies_true, b2i_0, b2i_1, b2i_01, up_sc, sc_at, sc_sc, ite_true, ite_false, if_true, if_false, Nat.reduceEqDiff, reduceIte, cpc_s h0]
    repeat' (first | intro _ | refine And.intro ?_ ?_)
    all_goals first | omega | exact ih _ _ (by omega) (by omega) hK
theorem x239 (hi : invF (σ 150)) (hK : ∀ σ', (∀ k, k ≠ 162 → k ≠ 163 → σ' k = σ k) → (∀ j, 0 ≤ j → j < cntF (σ 150) 40 0 0 → σ' 162 j = (TH (σ 150)).1 j) → K (some (vI (cntF (σ 150) 40 0 0))) (T0 n) σ') : Rn 239 0 [some (vR 149), none, none, none] [] (T0 n) σ K := by
  simp only [s239_0, s239_1, s239_2, s239_3, sx_push, tf, List.length_cons, List.length_nil, Option.some.injEq, exists_eq_left', Nat.reduceAdd, Nat.reduceLeDiff, true_and, and_true, true_or, or_true, Int.zero_add, Nat.zero_le, eq_self, ne_eq, not_true_eq_false, not_false_eq_true, false_implies, true_implies, implies_true, b2i_0, b2i_1, b2i_01, up_sc, sc_at, sc_sc, ite_true, ite_false, if_true, if_false, Nat.reduceEqDiff, reduceIte]
  have s150 : sc σ 163 (cpF (fun _ => 0) (σ 163) 40) 150 = σ 150 := by simp [sc_at]
  have main : Rn 239 23 [some (vR 149), some (vI 0), some (vI 40), none] [] (T0 n) (sc σ 163 (cpF (fun _ => 0) (σ 163) 40)) K := by
    simp only [s239_23, s239_24, s239_27, sx_push, tf, List.length_cons, List.length_nil, Option.some.injEq, exists_eq_left', Nat.reduceAdd, Nat.reduceLeDiff, true_and, and_true, true_or, or_true, Int.zero_add, Nat.zero_le, eq_self, ne_eq, not_true_eq_false, not_false_eq_true, false_implies, true_implies, implies_true, b2i_0, b2i_1, b2i_01, up_sc, sc_at, sc_sc, ite_true, ite_false, if_true, if_false, Nat.reduceEqDiff, reduceIte, x203]
    refine x239l hi 41 _ (fun _ => 0) (fun _ => 0) 0 _ _ (by omega) (iT_0 hi) s150 (fun j a b => by omega) (fun p p0 p1 => ?_) (fun σ' a1 a2 => hK σ' (fun k k1 k2 => ?_) a2)
    · simp only [sc_at, reduceIte]; unfold cpF; rw [if_pos ⟨p0, p1⟩]
    · rw [a1 k k1 k2, sc_at, if_neg k2]
  have := x239a (σ := σ) 40 0 none (by omega) (by omega) main
  rw [cpF_0, sc_id] at this
  exact this
end T1
