/-! searches: what they answer, and the reference -/
def spD (f : Int → Int) (o k q : Int) : Prop := brO f o q ≠ -1 ∧ f (160 + brO f o q) < k - 1
def spB (f : Int → Int) (o k q : Int) : Bool := decide (brO f o q ≠ -1 ∧ f (160 + brO f o q) < k - 1)
def spN (f : Int → Int) (o k : Int) : Int := cnt (spB f o k) 40 0 0
theorem spN_in (f : Int → Int) (o k : Int) : 0 ≤ spN f o k ∧ spN f o k ≤ 40 := by
  have := cnt_in (spB f o k) 40 0 0
  unfold spN; omega
def btr (f : Int → Int) (x y z lg p b : Int) : Bool := if lg = 0 then decide (farT f p x y z < farT f b x y z ∨ (farT f p x y z = farT f b x y z ∧ p < b)) else decide (farT f b x y z < farT f p x y z ∨ (farT f p x y z = farT f b x y z ∧ p < b))
def lkF (f : Int → Int) (x y z lg k : Int) : Nat → Int → (Int → Int) → Int → Int → (Int → Int) × Int × Int
  | 0, _, st, b, c => (st, b, c)
  | m + 1, p, st, b, c => if f p = 1 ∧ f (160 + p) = k - 1 ∧ st (f (200 + p)) = 1 then lkF f x y z lg k m (p + 1) (up1 st p 1) (if btr f x y z lg p b = true then p else b) (c + 1) else lkF f x y z lg k m (p + 1) st b c
def ofC (f : Int → Int) (x y z lg k p b : Int) : Bool := if lg = 0 then decide (farT f b x y z ≤ farT f p x y z - 2 ^ k.toNat) else decide (farT f p x y z + 2 ^ k.toNat ≤ farT f b x y z)
def ofS (f : Int → Int) (x y z lg k b : Int) : Nat → Int → (Int → Int) → (Int → Int)
  | 0, _, st => st
  | m + 1, p, st => ofS f x y z lg k b m (p + 1) (if st p = 1 ∧ ofC f x y z lg k p b = true then up1 st p 2 else st)
def ofR (f : Int → Int) (x y z lg k b : Int) : Nat → Int → (Int → Int) → List (Int × Int × Int × Int)
  | 0, _, _ => []
  | m + 1, p, st => if st p = 1 ∧ ofC f x y z lg k p b = true then (if spN f p k = 0 then ofR f x y z lg k b m (p + 1) (up1 st p 2) else (p, k, farT f p x y z, spN f p k) :: ofR f x y z lg k b m (p + 1) (up1 st p 2)) else ofR f x y z lg k b m (p + 1) st
def srF (f : Int → Int) (x y z lg : Int) : Nat → Int → (Int → Int) → Int → Int → List (Int × Int × Int × Int) → (Int × Int × List (Int × Int × Int × Int))
  | 0, _, _, b, c, R => (b, c, R)
  | m + 1, k, st, b, c, R => srF f x y z lg m (k - 1) (ofS f x y z lg k (lkF f x y z lg k 40 0 st b c).2.1 40 0 (lkF f x y z lg k 40 0 st b c).1) (lkF f x y z lg k 40 0 st b c).2.1 (lkF f x y z lg k 40 0 st b c).2.2 (R ++ ofR f x y z lg k (lkF f x y z lg k 40 0 st b c).2.1 40 0 (lkF f x y z lg k 40 0 st b c).1)
/-- who goes on: points of level k or above -/
def gI (f : Int → Int) (k : Int) (st : Int → Int) : Prop := ∀ p, 0 ≤ p → p < 40 → st p = 0 ∨ ((st p = 1 ∨ st p = 2) ∧ f p = 1 ∧ k ≤ f (160 + p))
def c2 (st : Int → Int) : Int := cnt (fun p => decide (st p = 2)) 40 0 0
theorem cnt_add (c : Int → Bool) : ∀ (k : Nat) (p a d : Int), cnt c k p (a + d) = cnt c k p a + d := by
  intro k
  induction k with
  | zero => intro p a d; rfl
  | succ k ih =>
    intro p a d
    unfold cnt
    split
    · rw [show a + d + 1 = (a + 1) + d by omega]; exact ih _ _ _
    · exact ih _ _ _
theorem cnt_one {c d : Int → Bool} {r : Int} (hc : c r = false) (hd : d r = true) : ∀ (k : Nat) (p a : Int), p ≤ r → r < p + k → (∀ q, p ≤ q → q < p + k → q ≠ r → d q = c q) → cnt d k p a = cnt c k p a + 1 := by
  intro k
  induction k with
  | zero => intro p a h1 h2 _; omega
  | succ k ih =>
    intro p a h1 h2 h
    unfold cnt
    by_cases e : p = r
    · subst e
      rw [if_pos hd, if_neg (by rw [hc]; decide), cnt_add, cnt_congr (d := c) k (p + 1) a (fun q x y => h q (by omega) (by omega) (by omega))]
    · rw [h p (by omega) (by omega) e]
      split
      · exact ih _ _ (by omega) (by omega) (fun q x y z => h q (by omega) (by omega) z)
      · exact ih _ _ (by omega) (by omega) (fun q x y z => h q (by omega) (by omega) z)
theorem c2_up {st : Int → Int} {p : Int} (p0 : 0 ≤ p) (p1 : p < 40) (h : st p ≠ 2) : c2 (up1 st p 2) = c2 st + 1 := by
  unfold c2
  exact cnt_one (r := p) (by simp [h]) (by simp [up1]) 40 0 0 p0 (by omega) (fun q a b e => by simp [up1, e])
theorem c2_up1 {st : Int → Int} {p : Int} (h : st p ≠ 2) : c2 (up1 st p 1) = c2 st := by
  unfold c2
  refine cnt_congr 40 0 0 (fun q a b => ?_)
  by_cases e : q = p
  · subst e; simp [up1, h]
  · simp [up1, e]
theorem c2_le (st : Int → Int) : 0 ≤ c2 st ∧ c2 st ≤ 40 := by
  have := cnt_in (fun p => decide (st p = 2)) 40 0 0
  unfold c2; omega
theorem lkF_spec (f : Int → Int) (ht : tree f) (x y z lg k : Int) (k0 : 1 ≤ k) (k1 : k ≤ 10) : ∀ (m : Nat) (p : Int) (st : Int → Int) (b c : Int), p + m = 40 → 0 ≤ p → gI f (k - 1) st → (∀ q, p ≤ q → q < 40 → f (160 + q) = k - 1 → st q = 0) → (0 ≤ b ∧ b < 40 ∧ f b = 1) → gI f (k - 1) (lkF f x y z lg k m p st b c).1 ∧ (0 ≤ (lkF f x y z lg k m p st b c).2.1 ∧ (lkF f x y z lg k m p st b c).2.1 < 40 ∧ f (lkF f x y z lg k m p st b c).2.1 = 1) ∧ (c ≤ (lkF f x y z lg k m p st b c).2.2 ∧ (lkF f x y z lg k m p st b c).2.2 ≤ c + m) ∧ c2 (lkF f x y z lg k m p st b c).1 = c2 st := by
  intro m
  induction m with
  | zero => intro p st b c _ _ h1 _ h2; exact ⟨h1, h2, by show c ≤ c ∧ c ≤ c + 0; omega, rfl⟩
  | succ m ih =>
    intro p st b c hp p0 h1 hs h2
    unfold lkF
    by_cases e : f p = 1 ∧ f (160 + p) = k - 1 ∧ st (f (200 + p)) = 1
    · rw [if_pos e]
      have s0 := hs p (by omega) (by omega) e.2.1
      have := ih (p + 1) (up1 st p 1) (if btr f x y z lg p b = true then p else b) (c + 1) (by omega) (by omega) (fun q q0 q1 => ?_) (fun q q0 q1 hq => ?_) ?_
      · obtain ⟨i1, i2, i3, i4⟩ := this
        exact ⟨i1, i2, by omega, by rw [i4]; exact c2_up1 (by omega)⟩
      · by_cases e2 : q = p
        · subst e2; rw [up1_s]; exact Or.inr ⟨Or.inl rfl, e.1, by omega⟩
        · rw [up1_n e2]; exact h1 q q0 q1
      · rw [up1_n (by omega)]; exact hs q (by omega) q1 hq
      · split
        · exact ⟨p0, by omega, e.1⟩
        · exact h2
    · rw [if_neg e]
      have := ih (p + 1) st b c (by omega) (by omega) h1 (fun q a => hs q (by omega)) h2
      exact ⟨this.1, this.2.1, by omega, this.2.2.2⟩
def tot : List (Int × Int × Int × Int) → Int
  | [] => 0
  | r :: R => r.2.2.2 + tot R
theorem tot_ap (R S : List (Int × Int × Int × Int)) : tot (R ++ S) = tot R + tot S := by
  induction R with
  | nil => simp [tot]
  | cons r R ih => simp only [List.cons_append, tot, ih]; omega
def okR : List (Int × Int × Int × Int) → Prop
  | [] => True
  | r :: R => (0 ≤ r.2.2.2 ∧ r.2.2.2 ≤ 40) ∧ okR R
theorem okR_ap {R S : List (Int × Int × Int × Int)} (h : okR R) (h2 : okR S) : okR (R ++ S) := by
  induction R with
  | nil => exact h2
  | cons r R ih => exact ⟨h.1, ih h.2⟩
theorem tot_in {R : List (Int × Int × Int × Int)} (h : okR R) : 0 ≤ tot R ∧ tot R ≤ 40 * R.length := by
  induction R with
  | nil => simp [tot]
  | cons r R ih =>
    have := ih h.2
    have := h.1
    simp only [tot, List.length_cons]
    omega
theorem of_spec (f : Int → Int) (x y z lg k b k' : Int) : ∀ (m : Nat) (p : Int) (st : Int → Int), p + m = 40 → 0 ≤ p → gI f k' st → gI f k' (ofS f x y z lg k b m p st) ∧ okR (ofR f x y z lg k b m p st) ∧ c2 st + (ofR f x y z lg k b m p st).length ≤ c2 (ofS f x y z lg k b m p st) := by
  intro m
  induction m with
  | zero => intro p st _ _ h; exact ⟨h, trivial, by show c2 st + ((0 : Nat) : Int) ≤ c2 st; omega⟩
  | succ m ih =>
    intro p st hp p0 h
    unfold ofS ofR
    by_cases e : st p = 1 ∧ ofC f x y z lg k p b = true
    · simp only [if_pos e]
      have cu := c2_up (st := st) p0 (by omega) (by omega)
      have := ih (p + 1) (up1 st p 2) (by omega) (by omega) (fun q q0 q1 => by
        by_cases e2 : q = p
        · subst e2; rw [up1_s]
          rcases h q q0 q1 with z | z
          · omega
          · exact Or.inr ⟨Or.inr rfl, z.2⟩
        · rw [up1_n e2]; exact h q q0 q1)
      split
      · exact ⟨this.1, this.2.1, by omega⟩
      · exact ⟨this.1, ⟨spN_in f p k, this.2.1⟩, by simp only [List.length_cons]; omega⟩
    · simp only [if_neg e]
      exact ih (p + 1) st (by omega) (by omega) h
/-- rows of those pruned, four numbers each, from the i-th on -/
def rowsA : List (Int × Int × Int × Int) → Int → (Int → Int) → Prop
  | [], _, _ => True
  | r :: R, i, g => (g (4 * i) = r.1 ∧ g (4 * i + 1) = r.2.1 ∧ g (4 * i + 2) = r.2.2.1 ∧ g (4 * i + 3) = r.2.2.2) ∧ rowsA R (i + 1) g
theorem rowsA_cg {g h : Int → Int} : ∀ (R : List (Int × Int × Int × Int)) (i : Int), (∀ j, j < 4 * (i + R.length) → h j = g j) → rowsA R i g → rowsA R i h := by
  intro R
  induction R with
  | nil => intro i _ _; trivial
  | cons r R ih =>
    intro i e hg
    simp only [List.length_cons] at e
    refine ⟨?_, ih (i + 1) (fun j hj => e j (by omega)) hg.2⟩
    rw [e _ (by omega), e _ (by omega), e _ (by omega), e _ (by omega)]
    exact hg.1
theorem rowsA_ap {g : Int → Int} {r : Int × Int × Int × Int} : ∀ (R : List (Int × Int × Int × Int)) (i : Int), rowsA R i g → rowsA [r] (i + R.length) g → rowsA (R ++ [r]) i g := by
  intro R
  induction R with
  | nil => intro i _ h; simpa using h
  | cons q R ih =>
    intro i h h2
    refine ⟨h.1, ih (i + 1) h.2 ?_⟩
    simp only [List.length_cons] at h2
    rw [show i + 1 + (R.length : Int) = i + ((R.length + 1 : Nat) : Int) by omega]
    exact h2
section S1
variable {n : Nat} {σ : sxS} {K : Option sxV → sxT → sxS → Prop} {f : Int → Int}
theorem x231l (ht : tree (σ 150)) (hz : rtP (σ 150)) {o k q : Int} (ho : 0 ≤ o) (hk : -100 ≤ k) (hk' : k ≤ 1000) : ∀ (m : Nat) (u : Int), 0 ≤ u → u < 40 → σ 150 u = 1 → 10 ≤ σ 150 (160 + u) + m → K (some (vI (b2i (brF (σ 150) o (m + 1) u ≠ -1 ∧ σ 150 (160 + brF (σ 150) o (m + 1) u) < k - 1)))) (T0 n) σ → Rn 231 16 [some (vR 149), some (vI q), some (vI o), some (vI k), some (vI u)] [] (T0 n) σ K := by
  intro m
  induction m with
  | zero =>
    intro u u0 u1 hu hm hK
    have t := ht u u0 u1 hu
    have z := hz u u0 u1 hu (by omega)
    have e : brF (σ 150) o (0 + 1) u = -1 := by
      unfold brF; rw [if_neg (by omega), if_neg (by omega)]
    rw [e, b2i_f (by omega)] at hK
    rw [s231_16]
    simp only [s231_17, s231_20, s231_23, s231_25, s231_26, s231_27, s231_29, s231_32, s231_33, s231_36, s231_39, s231_41, s231_42, s231_43, s231_44, s231_47, s231_48, s231_51, s231_54, s231_56, s231_57, s231_58, s231_60, s231_63, s231_64, s231_67, s231_70, s231_72, s231_73, s231_74, s231_75, s231_76, s231_77, s231_80, s231_81, s231_84, s231_87, s231_89, s231_90, s231_91, s231_92, s231_95, s231_96, s231_99, s231_100, sx_push, tf, List.length_cons, List.length_nil, Option.some.injEq, exists_eq_left', Nat.reduceAdd, Nat.reduceLeDiff, true_and, and_true, true_or, or_true, Int.zero_add, Nat.zero_le, eq_self, ne_eq, not_true_eq_false, not_false_eq_true, false_implies, true_implies, implies_true, b2i_0, b2i_1, b2i_01, up_sc, sc_at, sc_sc, ite_true, ite_false, if_true, if_false, Nat.reduceEqDiff, reduceIte]
    repeat' (first | intro _ | refine And.intro ?_ ?_)
    all_goals first | exact hK | omega
  | succ m ih =>
    intro u u0 u1 hu hm hK
    have t := ht u u0 u1 hu
    have z := hz u u0 u1 hu
    rw [s231_16]
    by_cases e1 : σ 150 (200 + u) = o
    · have e : brF (σ 150) o (m + 1 + 1) u = u := by unfold brF; rw [if_pos e1]
      rw [e] at hK
      simp only [s231_17, s231_20, s231_23, s231_25, s231_26, s231_27, s231_29, s231_32, s231_33, s231_36, s231_39, s231_41, s231_42, s231_43, s231_44, s231_47, s231_48, s231_51, s231_54, s231_56, s231_57, s231_58, s231_60, s231_63, s231_64, s231_67, s231_70, s231_72, s231_73, s231_74, s231_75, s231_76, s231_77, s231_80, s231_81, s231_84, s231_87, s231_89, s231_90, s231_91, s231_92, s231_95, s231_96, s231_99, s231_100, sx_push, tf, List.length_cons, List.length_nil, Option.some.injEq, exists_eq_left', Nat.reduceAdd, Nat.reduceLeDiff, true_and, and_true, true_or, or_true, Int.zero_add, Nat.zero_le, eq_self, ne_eq, not_true_eq_false, not_false_eq_true, false_implies, true_implies, implies_true, b2i_0, b2i_1, b2i_01, up_sc, sc_at, sc_sc, ite_true, ite_false, if_true, if_false, Nat.reduceEqDiff, reduceIte]
      repeat' (first | intro _ | refine And.intro ?_ ?_)
      all_goals (first | exact hK | omega | (rw [b2i_t] at hK <;> first | exact hK | omega) | (rw [b2i_f] at hK <;> first | exact hK | omega) | (split at hK <;> first | contradiction | exact hK | omega))
    · by_cases e2 : σ 150 (160 + u) < 10
      · have e : brF (σ 150) o (m + 1 + 1) u = brF (σ 150) o (m + 1) (σ 150 (200 + u)) := by
          show (if σ 150 (200 + u) = o then u else if σ 150 (160 + u) < 10 then brF (σ 150) o (m + 1) (σ 150 (200 + u)) else -1) = _
          rw [if_neg e1, if_pos e2]
        rw [e] at hK
        have t2 := t.2.2 e2
        simp only [s231_17, s231_20, s231_23, s231_25, s231_26, s231_27, s231_29, s231_32, s231_33, s231_36, s231_39, s231_41, s231_42, s231_43, s231_44, s231_47, s231_48, s231_51, s231_54, s231_56, s231_57, s231_58, s231_60, sx_push, tf, List.length_cons, List.length_nil, Option.some.injEq, exists_eq_left', Nat.reduceAdd, Nat.reduceLeDiff, true_and, and_true, true_or, or_true, Int.zero_add, Nat.zero_le, eq_self, ne_eq, not_true_eq_false, not_false_eq_true, false_implies, true_implies, implies_true, b2i_0, b2i_1, b2i_01, up_sc, sc_at, sc_sc, ite_true, ite_false, if_true, if_false, Nat.reduceEqDiff, reduceIte]
        repeat' (first | intro _ | refine And.intro ?_ ?_)
        all_goals first | omega | exact ih _ t2.1.1 t2.1.2 t2.2.1 (by omega) hK
      · have e : brF (σ 150) o (m + 1 + 1) u = -1 := by
          show (if σ 150 (200 + u) = o then u else if σ 150 (160 + u) < 10 then brF (σ 150) o (m + 1) (σ 150 (200 + u)) else -1) = _
          rw [if_neg e1, if_neg e2]
        rw [e, b2i_f (by omega)] at hK
        have z := z (by omega)
        simp only [s231_17, s231_20, s231_23, s231_25, s231_26, s231_27, s231_29, s231_32, s231_33, s231_36, s231_39, s231_41, s231_42, s231_43, s231_44, s231_47, s231_48, s231_51, s231_54, s231_56, s231_57, s231_58, s231_60, s231_63, s231_64, s231_67, s231_70, s231_72, s231_73, s231_74, s231_75, s231_76, s231_77, s231_80, s231_81, s231_84, s231_87, s231_89, s231_90, s231_91, s231_92, s231_95, s231_96, s231_99, s231_100, sx_push, tf, List.length_cons, List.length_nil, Option.some.injEq, exists_eq_left', Nat.reduceAdd, Nat.reduceLeDiff, true_and, and_true, true_or, or_true, Int.zero_add, Nat.zero_le, eq_self, ne_eq, not_true_eq_false, not_false_eq_true, false_implies, true_implies, implies_true, b2i_0, b2i_1, b2i_01, up_sc, sc_at, sc_sc, ite_true, ite_false, if_true, if_false, Nat.reduceEqDiff, reduceIte]
        repeat' (first | intro _ | refine And.intro ?_ ?_)
        all_goals first | exact hK | omega
theorem x231 (h01 : th01 (σ 150)) (ht : tree (σ 150)) (hz : rtP (σ 150)) {o k q : Int} (ho : 0 ≤ o) (hk : -100 ≤ k) (hk' : k ≤ 1000) (q0 : 0 ≤ q) (q1 : q < 40) : Rn 231 0 [some (vR 149), some (vI q), some (vI o), some (vI k), none] [] (T0 n) σ K ↔ K (some (vI (b2i (spB (σ 150) o k q = true)))) (T0 n) σ := by
  refine Rn_iff fun K hK => ?_
  have e : spB (σ 150) o k q = true ↔ (brO (σ 150) o q ≠ -1 ∧ σ 150 (160 + brO (σ 150) o q) < k - 1) := by unfold spB; rw [decide_eq_true_eq]
  by_cases c : σ 150 q = 1
  · have t := ht q q0 q1 c
    have e3 : brO (σ 150) o q = brF (σ 150) o 11 q := by unfold brO; rw [if_pos ⟨⟨q0, q1⟩, c⟩]
    have hK2 : K (some (vI (b2i (brF (σ 150) o 11 q ≠ -1 ∧ σ 150 (160 + brF (σ 150) o 11 q) < k - 1)))) (T0 n) σ := by
      rw [← e3]
      by_cases c2 : spB (σ 150) o k q = true
      · rw [b2i_t c2] at hK; rw [b2i_t (e.mp c2)]; exact hK
      · rw [b2i_f c2] at hK; rw [b2i_f (fun z => c2 (e.mpr z))]; exact hK
    simp only [s231_0, s231_1, s231_4, s231_5, s231_6, s231_7, s231_8, s231_11, s231_12, s231_13, s231_14, sx_push, tf, List.length_cons, List.length_nil, Option.some.injEq, exists_eq_left', Nat.reduceAdd, Nat.reduceLeDiff, true_and, and_true, true_or, or_true, Int.zero_add, Nat.zero_le, eq_self, ne_eq, not_true_eq_false, not_false_eq_true, false_implies, true_implies, implies_true, b2i_0, b2i_1, b2i_01, up_sc, sc_at, sc_sc, ite_true, ite_false, if_true, if_false, Nat.reduceEqDiff, reduceIte, c]
    repeat' (first | intro _ | refine And.intro ?_ ?_)
    all_goals first | omega | exact x231l ht hz ho hk hk' 10 q q0 q1 c (by omega) hK2
  · have e3 : brO (σ 150) o q = -1 := by unfold brO; rw [if_neg (fun z => c z.2)]
    rw [b2i_f (fun z => (e.mp z).1 e3)] at hK
    rcases h01 q q0 q1 with c0 | c0
    · simp only [s231_0, s231_1, s231_4, s231_5, s231_6, s231_7, s231_8, s231_11, s231_12, sx_push, tf, List.length_cons, List.length_nil, Option.some.injEq, exists_eq_left', Nat.reduceAdd, Nat.reduceLeDiff, true_and, and_true, true_or, or_true, Int.zero_add, Nat.zero_le, eq_self, ne_eq, not_true_eq_false, not_false_eq_true, false_implies, true_implies, implies_true, b2i_0, b2i_1, b2i_01, up_sc, sc_at, sc_sc, ite_true, ite_false, if_true, if_false, Nat.reduceEqDiff, reduceIte, c0]
      repeat' (first | intro _ | refine And.intro ?_ ?_)
      all_goals first | exact hK | omega
    · exact absurd c0 c
theorem x230l (h01 : th01 (σ 150)) (ht : tree (σ 150)) (hz : rtP (σ 150)) {o k' : Int} (ho : 0 ≤ o) (hk : -100 ≤ k') (hk' : k' ≤ 1000) : ∀ (k : Nat) (p a : Int), p + k = 40 → 0 ≤ p → 0 ≤ a → a ≤ p → K (some (vI (cnt (fun p => decide (spB (σ 150) o k' p = true)) k p a))) (T0 n) σ → Rn 230 5 [some (vR 149), some (vI o), some (vI k'), some (vI a), some (vI p)] [] (T0 n) σ K := by
  intro k
  induction k with
  | zero =>
    intro p a hp h0 ha ha' hK
    rw [s230_5]
    simp only [s230_0, s230_1, s230_2, s230_3, s230_7, s230_9, s230_12, s230_13, s230_14, s230_16, s230_17, s230_18, s230_21, s230_24, s230_25, s230_28, s230_29, s230_30, s230_31, s230_34, s230_37, s230_38, sx_push, tf, List.length_cons, List.length_nil, Option.some.injEq, exists_eq_left', Nat.reduceAdd, Nat.reduceLeDiff, true_and, and_true, true_or, or_true, Int.zero_add, Nat.zero_le, eq_self, ne_eq, not_true_eq_false, not_false_eq_true, false_implies, true_implies, implies_true, b2i_0, b2i_1, b2i_01, up_sc, sc_at, sc_sc, ite_true, ite_false, if_true, if_false, Nat.reduceEqDiff, reduceIte]
    repeat' (first | intro _ | refine And.intro ?_ ?_)
    all_goals first | exact hK | omega
  | succ k ih =>
    intro p a hp h0 ha ha' hK
    have h1 : p < 40 := by omega
    unfold cnt at hK
    simp only [decide_eq_true_eq] at hK
    rw [s230_5]
    simp only [s230_0, s230_1, s230_2, s230_3, s230_7, s230_9, s230_12, s230_13, s230_14, s230_16, s230_17, s230_18, s230_21, s230_24, s230_25, s230_28, s230_29, s230_30, s230_31, s230_34, s230_37, s230_38, sx_push, tf, List.length_cons, List.length_nil, Option.some.injEq, exists_eq_left', Nat.reduceAdd, Nat.reduceLeDiff, true_and, and_true, true_or, or_true, Int.zero_add, Nat.zero_le, eq_self, ne_eq, not_true_eq_false, not_false_eq_true, false_implies, true_implies, implies_true, b2i_0, b2i_1, b2i_01, up_sc, sc_at, sc_sc, ite_true, ite_false, if_true, if_false, Nat.reduceEqDiff, reduceIte, x231 h01 ht hz ho hk hk' h0 h1, Int.add_zero]
    repeat' (first | intro _ | refine And.intro ?_ ?_)
    all_goals first | omega | (split at hK <;> first | contradiction | exact hK | omega | exact ih _ _ (by omega) (by omega) (by omega) (by omega) hK)
theorem x230 (h01 : th01 (σ 150)) (ht : tree (σ 150)) (hz : rtP (σ 150)) {o k' : Int} (ho : 0 ≤ o) (hk : -100 ≤ k') (hk' : k' ≤ 1000) : Rn 230 0 [some (vR 149), some (vI o), some (vI k'), none, none] [] (T0 n) σ K ↔ K (some (vI (cnt (fun p => decide (spB (σ 150) o k' p = true)) 40 0 0))) (T0 n) σ := by
  refine Rn_iff fun K hK => ?_
  simp only [s230_0, s230_1, s230_2, s230_3, s230_7, s230_9, s230_12, s230_13, s230_14, s230_16, s230_17, s230_18, s230_21, s230_24, s230_25, s230_28, s230_29, s230_30, s230_31, s230_34, s230_37, s230_38, sx_push, tf, List.length_cons, List.length_nil, Option.some.injEq, exists_eq_left', Nat.reduceAdd, Nat.reduceLeDiff, true_and, and_true, true_or, or_true, Int.zero_add, Nat.zero_le, eq_self, ne_eq, not_true_eq_false, not_false_eq_true, false_implies, true_implies, implies_true, b2i_0, b2i_1, b2i_01, up_sc, sc_at, sc_sc, ite_true, ite_false, if_true, if_false, Nat.reduceEqDiff, reduceIte]
  exact x230l h01 ht hz ho hk hk' 40 0 0 (by omega) (by omega) (by omega) (by omega) hK

theorem x230n (h01 : th01 (σ 150)) (ht : tree (σ 150)) (hz : rtP (σ 150)) {o k' : Int} (ho : 0 ≤ o) (hk : -100 ≤ k') (hk' : k' ≤ 1000) : Rn 230 0 [some (vR 149), some (vI o), some (vI k'), none, none] [] (T0 n) σ K ↔ K (some (vI (spN (σ 150) o k'))) (T0 n) σ := by
  have e : spN (σ 150) o k' = cnt (fun p => decide (spB (σ 150) o k' p = true)) 40 0 0 := by
    unfold spN
    exact cnt_congr 40 0 0 (fun q _ _ => by simp)
  rw [e]
  exact x230 h01 ht hz ho hk hk'

theorem x227l : ∀ (k : Nat) (i : Int), i + k = 40 → 0 ≤ i → Rn 227 21 [some (vR 149), some (vI 40)] [] (T0 n) (sc σ 160 (cpF (fun _ => 0) (σ 160) 40)) K → Rn 227 2 [some (vR 149), some (vI i)] [] (T0 n) (sc σ 160 (cpF (fun _ => 0) (σ 160) i)) K := by
  intro k
  induction k with
  | zero =>
    intro i hi h0 hK
    obtain rfl : i = 40 := by omega
    rw [s227_2]
    simp only [s227_3, s227_5, s227_8, s227_9, s227_12, s227_13, s227_14, s227_15, s227_18, sx_push, tf, List.length_cons, List.length_nil, Option.some.injEq, exists_eq_left', Nat.reduceAdd, Nat.reduceLeDiff, true_and, and_true, true_or, or_true, Int.zero_add, Nat.zero_le, eq_self, ne_eq, not_true_eq_false, not_false_eq_true, false_implies, true_implies, implies_true, b2i_0, b2i_1, b2i_01, up_sc, sc_at, sc_sc, ite_true, ite_false, if_true, if_false, Nat.reduceEqDiff, reduceIte]
    repeat' (first | intro _ | refine And.intro ?_ ?_)
    all_goals first | exact hK | omega
  | succ k ih =>
    intro i hi h0 hK
    rw [s227_2]
    simp only [s227_3, s227_5, s227_8, s227_9, s227_12, s227_13, s227_14, s227_15, s227_18, sx_push, tf, List.length_cons, List.length_nil, Option.some.injEq, exists_eq_left', Nat.reduceAdd, Nat.reduceLeDiff, true_and, and_true, true_or, or_true, Int.zero_add, Nat.zero_le, eq_self, ne_eq, not_true_eq_false, not_false_eq_true, false_implies, true_implies, implies_true, b2i_0, b2i_1, b2i_01, up_sc, sc_at, sc_sc, ite_true, ite_false, if_true, if_false, Nat.reduceEqDiff, reduceIte, cpc_s h0]
    repeat' (first | intro _ | refine And.intro ?_ ?_)
    all_goals first | omega | exact ih _ (by omega) (by omega) hK
theorem x227 (hr : 0 ≤ rootF (σ 150) 40 0 ∧ rootF (σ 150) 40 0 < 40) (hK : ∀ σ', (∀ k, k ≠ 149 → k ≠ 160 → σ' k = σ k) → σ' 149 = up1 (up1 (σ 149) 24 (rootF (σ 150) 40 0)) 25 1 → (∀ p, 0 ≤ p → p < 40 → σ' 160 p = if p = rootF (σ 150) 40 0 then 1 else 0) → K none (T0 n) σ') : Rn 227 0 [some (vR 149), none] [] (T0 n) σ K := by
  have main : Rn 227 21 [some (vR 149), some (vI 40)] [] (T0 n) (sc σ 160 (cpF (fun _ => 0) (σ 160) 40)) K := by
    simp only [s227_21, s227_22, s227_23, s227_26, s227_29, s227_30, s227_33, s227_34, s227_37, s227_38, s227_39, s227_40, s227_41, s227_44, sx_push, tf, List.length_cons, List.length_nil, Option.some.injEq, exists_eq_left', Nat.reduceAdd, Nat.reduceLeDiff, true_and, and_true, true_or, or_true, Int.zero_add, Nat.zero_le, eq_self, ne_eq, not_true_eq_false, not_false_eq_true, false_implies, true_implies, implies_true, b2i_0, b2i_1, b2i_01, up_sc, sc_at, sc_sc, ite_true, ite_false, if_true, if_false, Nat.reduceEqDiff, reduceIte, x203, up1_s]
    refine ⟨hr, hK _ (fun k k1 k2 => ?_) ?_ (fun p p0 p1 => ?_)⟩
    · simp only [sc_at]; rw [if_neg (by omega), if_neg (by omega), if_neg (by omega), if_neg (by omega)]
    · simp [sc_at]
    · simp only [sc_at, Nat.reduceEqDiff, reduceIte]
      by_cases z : p = rootF (σ 150) 40 0
      · rw [z, up1_s, if_pos rfl]
      · rw [up1_n z, if_neg z]; unfold cpF; rw [if_pos ⟨p0, p1⟩]
  simp only [s227_0, s227_1, sx_push, tf, List.length_cons, List.length_nil, Option.some.injEq, exists_eq_left', Nat.reduceAdd, Nat.reduceLeDiff, true_and, and_true, true_or, or_true, Int.zero_add, Nat.zero_le, eq_self, ne_eq, not_true_eq_false, not_false_eq_true, false_implies, true_implies, implies_true, b2i_0, b2i_1, b2i_01, up_sc, sc_at, sc_sc, ite_true, ite_false, if_true, if_false, Nat.reduceEqDiff, reduceIte]
  have := x227l (σ := σ) 40 0 (by omega) (by omega) main
  rw [cpF_0, sc_id] at this
  exact this
/-- the reference's cells in a search -/
def qR2 (σ : sxS) (f st : Int → Int) (b c : Int) : Prop := σ 150 = f ∧ (∀ p, 0 ≤ p → p < 40 → σ 160 p = st p) ∧ σ 149 24 = b ∧ σ 149 25 = c
def qR (σ : sxS) (f st : Int → Int) (b c : Int) (R : List (Int × Int × Int × Int)) : Prop := qR2 σ f st b c ∧ σ 149 30 = R.length ∧ σ 149 29 = tot R ∧ rowsA R 0 (σ 161)
/-- a search leaves all but its cells -/
def qG (σ σ' : sxS) : Prop := (∀ k, k ≠ 149 → k ≠ 160 → σ' k = σ k) ∧ ∀ j, j ≠ 24 → j ≠ 25 → σ' 149 j = σ 149 j
theorem qG_rfl {σ : sxS} : qG σ σ := ⟨fun _ _ _ => rfl, fun _ _ _ => rfl⟩
theorem qG_tr {σ σ' σ2 : sxS} (h : qG σ σ') (h2 : qG σ' σ2) : qG σ σ2 := ⟨fun k a b => (h2.1 k a b).trans (h.1 k a b), fun j a b => (h2.2 j a b).trans (h.2 j a b)⟩
def qF (σ σ' : sxS) : Prop := (∀ k, k ≠ 149 → k ≠ 160 → k ≠ 161 → σ' k = σ k) ∧ ∀ j, (j < 24 ∨ 30 < j) → σ' 149 j = σ 149 j
theorem qF_rfl {σ : sxS} : qF σ σ := ⟨fun _ _ _ _ => rfl, fun _ _ => rfl⟩
theorem qF_tr {σ σ' σ2 : sxS} (h : qF σ σ') (h2 : qF σ' σ2) : qF σ σ2 := ⟨fun k a b c => (h2.1 k a b c).trans (h.1 k a b c), fun j a => (h2.2 j a).trans (h.2 j a)⟩
theorem qG_F {σ σ' : sxS} (h : qG σ σ') : qF σ σ' := ⟨fun k a b _ => h.1 k a b, fun j a => h.2 j (by omega) (by omega)⟩
theorem qR_G {σ σ' : sxS} {f st st' : Int → Int} {b c b' c' : Int} {R : List (Int × Int × Int × Int)} (h : qR σ f st b c R) (hg : qG σ σ') (h2 : qR2 σ' f st' b' c') : qR σ' f st' b' c' R := ⟨h2, by rw [hg.2 30 (by decide) (by decide)]; exact h.2.1, by rw [hg.2 29 (by decide) (by decide)]; exact h.2.2.1, by rw [hg.1 161 (by decide) (by decide)]; exact h.2.2.2⟩
theorem lkF_cg {f st st' : Int → Int} {x y z lg k : Int} (ht : tree f) (k1 : k ≤ 10) : ∀ (m : Nat) (p : Int) (st st' : Int → Int) (b c : Int), p + m = 40 → 0 ≤ p → (∀ q, 0 ≤ q → q < 40 → st q = st' q) → (∀ q, 0 ≤ q → q < 40 → (lkF f x y z lg k m p st b c).1 q = (lkF f x y z lg k m p st' b c).1 q) ∧ (lkF f x y z lg k m p st b c).2 = (lkF f x y z lg k m p st' b c).2 := by
  intro m
  induction m with
  | zero => intro p st st' b c _ _ h; exact ⟨h, rfl⟩
  | succ m ih =>
    intro p st st' b c hp p0 h
    unfold lkF
    by_cases e0 : f p = 1 ∧ f (160 + p) = k - 1
    · have t := (ht p p0 (by omega) e0.1).2.2 (by omega)
      rw [h _ t.1.1 t.1.2]
      by_cases e : f p = 1 ∧ f (160 + p) = k - 1 ∧ st' (f (200 + p)) = 1
      · simp only [if_pos e]
        exact ih _ _ _ _ _ (by omega) (by omega) (fun q a b => by unfold up1; split; rfl; exact h q a b)
      · simp only [if_neg e]
        exact ih _ _ _ _ _ (by omega) (by omega) h
    · rw [if_neg (fun z => e0 ⟨z.1, z.2.1⟩), if_neg (fun z => e0 ⟨z.1, z.2.1⟩)]
      exact ih _ _ _ _ _ (by omega) (by omega) h
theorem x228l (h01 : th01 f) (hw : wfc f) (ht : tree f) {x y z lg k : Int} (hx : in8 x) (hy : in8 y) (hz : in8 z) (k0 : 1 ≤ k) (k1 : k ≤ 10) (hlg : lg = 0 ∨ lg = 1) : ∀ (m : Nat) (p : Int) (σ : sxS) (st : Int → Int) (b c : Int) (u : Option sxV), p + m = 40 → 0 ≤ p → qR2 σ f st b c → (0 ≤ b ∧ b < 40) → 0 ≤ c → c + m ≤ 1000 → (∀ σ', qG σ σ' → qR2 σ' f (lkF f x y z lg k m p st b c).1 (lkF f x y z lg k m p st b c).2.1 (lkF f x y z lg k m p st b c).2.2 → K none (T0 n) σ') → Rn 228 3 [some (vR 149), some (vI k), some (vI x), some (vI y), some (vI z), some (vI lg), some (vI p), u] [] (T0 n) σ K := by
  intro m
  induction m with
  | zero =>
    intro p σ st b c u hp p0 hq hb hc hc' hK
    rw [s228_3]
    simp only [s228_5, s228_7, s228_10, s228_11, s228_14, s228_15, s228_17, s228_18, s228_19, s228_22, s228_23, s228_26, s228_29, s228_31, s228_32, s228_33, s228_34, s228_35, s228_36, s228_39, s228_40, s228_43, s228_44, s228_47, s228_50, s228_52, s228_53, s228_54, s228_55, s228_56, s228_59, s228_62, s228_63, s228_66, s228_68, s228_69, s228_70, s228_71, s228_72, s228_75, s228_76, s228_77, s228_80, s228_81, s228_83, s228_84, s228_85, s228_87, s228_90, s228_91, s228_92, s228_95, s228_96, s228_97, s228_99, s228_102, s228_103, s228_105, s228_107, s228_110, s228_112, s228_115, s228_118, s228_120, s228_123, s228_124, s228_126, s228_129, s228_132, s228_134, s228_137, s228_139, s228_140, s228_143, s228_146, s228_147, s228_149, s228_152, s228_155, s228_158, sx_push, tf, List.length_cons, List.length_nil, Option.some.injEq, exists_eq_left', Nat.reduceAdd, Nat.reduceLeDiff, true_and, and_true, true_or, or_true, Int.zero_add, Nat.zero_le, eq_self, ne_eq, not_true_eq_false, not_false_eq_true, false_implies, true_implies, implies_true, b2i_0, b2i_1, b2i_01, up_sc, sc_at, sc_sc, ite_true, ite_false, if_true, if_false, Nat.reduceEqDiff, reduceIte]
    repeat' (first | intro _ | refine And.intro ?_ ?_)
    all_goals first | omega | exact hK σ qG_rfl hq
  | succ m ih =>
    intro p σ st b c u hp p0 hq hb hc hc' hK
    have p1 : p < 40 := by omega
    have hq' := hq
    obtain ⟨q1, q2, q3, q4⟩ := hq'
    rw [s228_3]
    unfold lkF at hK
    by_cases e : f p = 1 ∧ f (160 + p) = k - 1 ∧ st (f (200 + p)) = 1
    · simp only [if_pos e] at hK
      have t := (ht p p0 p1 e.1).2.2 (by omega)
      have e3 : σ 160 (σ 150 (200 + p)) = 1 := by rw [q1, q2 _ t.1.1 t.1.2]; exact e.2.2
      have fp := farT_in hw p0 p1 hx hy hz
      have fb := farT_in hw hb.1 hb.2 hx hy hz
      have e1 : σ 150 p = 1 := by rw [q1]; exact e.1
      have e2 : σ 150 (160 + p) = k - 1 := by rw [q1]; exact e.2.1
      have e4 : 0 ≤ σ 150 (200 + p) ∧ σ 150 (200 + p) < 40 := by rw [q1]; exact t.1
      have x195p := fun (s : sxS) (hs : s 150 = f) K => x195 (n := n) (σ := s) (K := K) (by rw [hs]; exact hw) hx hy hz p0 p1
      have x195b := fun (s : sxS) (hs : s 150 = f) K => x195 (n := n) (σ := s) (K := K) (by rw [hs]; exact hw) hx hy hz hb.1 hb.2
      have u24 : ∀ v, up1 (σ 149) 25 v 24 = σ 149 24 := fun v => up1_n (by decide)
      have fin : ∀ (b' : Int) (s : sxS), (∀ k, k ≠ 149 → k ≠ 160 → s k = σ k) → s 160 = up1 (σ 160) p 1 → s 149 24 = b' → s 149 25 = c + 1 → (∀ j, j ≠ 24 → j ≠ 25 → s 149 j = σ 149 j) → b' = (if btr f x y z lg p b = true then p else b) → ∀ u, Rn 228 152 [some (vR 149), some (vI k), some (vI x), some (vI y), some (vI z), some (vI lg), some (vI p), u] [] (T0 n) s K := fun b' s s1 s2 f24 f25 f2 hb' u => by
        simp only [s228_152, s228_155, sx_push, tf, List.length_cons, List.length_nil, Option.some.injEq, exists_eq_left', Nat.reduceAdd, Nat.reduceLeDiff, true_and, and_true, true_or, or_true, Int.zero_add, Nat.zero_le, eq_self, ne_eq, not_true_eq_false, not_false_eq_true, false_implies, true_implies, implies_true, b2i_0, b2i_1, b2i_01, up_sc, sc_at, sc_sc, ite_true, ite_false, if_true, if_false, Nat.reduceEqDiff, reduceIte]
        refine ⟨by omega, ih (p + 1) s (up1 st p 1) b' (c + 1) u (by omega) (by omega) ⟨?_, fun q q0 q1' => ?_, f24, f25⟩ ?_ (by omega) (by omega) (fun σ' a1 a2 => ?_)⟩
        · rw [s1 150 (by decide) (by decide)]; exact q1
        · rw [s2]
          unfold up1
          split
          · rfl
          · exact q2 q q0 q1'
        · rw [hb']; split
          · exact ⟨p0, p1⟩
          · exact hb
        · rw [hb'] at a2
          exact hK σ' (qG_tr ⟨s1, f2⟩ a1) a2
      have finN := fin b (sc (sc σ 160 (up1 (σ 160) p 1)) 149 (up1 (σ 149) 25 (c + 1))) (fun k a b => by rw [sc_at, if_neg a, sc_at, if_neg b]) (by simp [sc_at]) (by simp [sc_at, up1]; exact q3) (by simp [sc_at, up1]) (fun j a b => by simp [sc_at, up1, b])
      have finY := fin p (sc (sc σ 160 (up1 (σ 160) p 1)) 149 (up1 (up1 (σ 149) 25 (c + 1)) 24 p)) (fun k a b => by rw [sc_at, if_neg a, sc_at, if_neg b]) (by simp [sc_at]) (by simp [sc_at, up1]) (by simp [sc_at, up1]) (fun j a b => by simp [sc_at, up1, a, b])
      simp only [s228_5, s228_7, s228_10, s228_11, s228_14, s228_15, s228_17, s228_18, s228_19, s228_22, s228_23, s228_26, s228_29, s228_31, s228_32, s228_33, s228_34, s228_35, s228_36, s228_39, s228_40, s228_43, s228_44, s228_47, s228_50, s228_52, s228_53, s228_54, s228_55, s228_56, s228_59, s228_62, s228_63, s228_66, s228_68, s228_69, s228_70, s228_71, s228_72, s228_75, s228_76, s228_77, s228_80, s228_81, s228_83, s228_84, s228_85, s228_87, s228_90, s228_91, s228_92, s228_95, s228_96, s228_97, s228_99, sx_push, tf, List.length_cons, List.length_nil, Option.some.injEq, exists_eq_left', Nat.reduceAdd, Nat.reduceLeDiff, true_and, and_true, true_or, or_true, Int.zero_add, Nat.zero_le, eq_self, ne_eq, not_true_eq_false, not_false_eq_true, false_implies, true_implies, implies_true, b2i_0, b2i_1, b2i_01, up_sc, sc_at, sc_sc, ite_true, ite_false, if_true, if_false, Nat.reduceEqDiff, reduceIte, e1, e2, e3, q4]
      repeat' (first | intro _ | refine And.intro ?_ ?_)
      all_goals first | omega | contradiction | skip
      rw [x195p _ (by simp [sc_at]; exact q1)]
      simp only [s228_90, s228_91, s228_92, s228_95, s228_96, s228_97, s228_99, sx_push, tf, List.length_cons, List.length_nil, Option.some.injEq, exists_eq_left', Nat.reduceAdd, Nat.reduceLeDiff, true_and, and_true, true_or, or_true, Int.zero_add, Nat.zero_le, eq_self, ne_eq, not_true_eq_false, not_false_eq_true, false_implies, true_implies, implies_true, b2i_0, b2i_1, b2i_01, up_sc, sc_at, sc_sc, ite_true, ite_false, if_true, if_false, Nat.reduceEqDiff, reduceIte, u24, q3]
      rw [x195b _ (by simp [sc_at]; exact q1)]
      have ef : ∀ r : Int, farT (sc (sc σ 160 (up1 (σ 160) p 1)) 149 (up1 (σ 149) 25 (c + 1)) 150) r x y z = farT f r x y z := fun r => by simp only [sc_at, Nat.reduceEqDiff, reduceIte, q1]
      simp only [ef, q1]
      unfold btr at finN finY
      rcases hlg with z0 | z0 <;> subst z0
      · simp only [s228_102, s228_103, s228_105, s228_107, s228_110, s228_112, s228_115, s228_118, s228_120, s228_123, s228_124, s228_126, s228_129, s228_132, s228_134, s228_137, s228_139, s228_140, s228_143, s228_146, s228_147, s228_149, Int.reduceToNat, Int.reducePow, Nat.reducePow, Int.reduceLE, Int.reduceLT, Int.reduceNeg, Int.reduceEq, Int.reduceNe, Int.reduceAdd, Int.reduceSub, Int.reduceMul, and_self, sx_push, tf, List.length_cons, List.length_nil, Option.some.injEq, exists_eq_left', Nat.reduceAdd, Nat.reduceLeDiff, true_and, and_true, true_or, or_true, Int.zero_add, Nat.zero_le, eq_self, ne_eq, not_true_eq_false, not_false_eq_true, false_implies, true_implies, implies_true, b2i_0, b2i_1, b2i_01, up_sc, sc_at, sc_sc, ite_true, ite_false, if_true, if_false, Nat.reduceEqDiff, reduceIte, u24, q3]
        rw [if_pos rfl] at finN finY
        simp only [decide_eq_true_eq] at finN finY
        by_cases bb : farT f p x y z < farT f b x y z ∨ (farT f p x y z = farT f b x y z ∧ p < b)
        · have finY := finY (if_pos bb).symm
          repeat' (first | intro _ | refine And.intro ?_ ?_)
          all_goals first | omega | exact finY _
        · have finN := finN (if_neg bb).symm
          repeat' (first | intro _ | refine And.intro ?_ ?_)
          all_goals first | omega | exact finN _
      · simp only [s228_102, s228_103, s228_105, s228_107, s228_110, s228_112, s228_115, s228_118, s228_120, s228_123, s228_124, s228_126, s228_129, s228_132, s228_134, s228_137, s228_139, s228_140, s228_143, s228_146, s228_147, s228_149, Int.reduceToNat, Int.reducePow, Nat.reducePow, Int.reduceLE, Int.reduceLT, Int.reduceNeg, Int.reduceEq, Int.reduceNe, Int.reduceAdd, Int.reduceSub, Int.reduceMul, and_self, sx_push, tf, List.length_cons, List.length_nil, Option.some.injEq, exists_eq_left', Nat.reduceAdd, Nat.reduceLeDiff, true_and, and_true, true_or, or_true, Int.zero_add, Nat.zero_le, eq_self, ne_eq, not_true_eq_false, not_false_eq_true, false_implies, true_implies, implies_true, b2i_0, b2i_1, b2i_01, up_sc, sc_at, sc_sc, ite_true, ite_false, if_true, if_false, Nat.reduceEqDiff, reduceIte, u24, q3]
        rw [if_neg (show ¬ (1 : Int) = 0 by decide)] at finN finY
        simp only [decide_eq_true_eq] at finN finY
        by_cases bb : farT f b x y z < farT f p x y z ∨ (farT f p x y z = farT f b x y z ∧ p < b)
        · have finY := finY (if_pos bb).symm
          repeat' (first | intro _ | refine And.intro ?_ ?_)
          all_goals first | omega | exact finY _
        · have finN := finN (if_neg bb).symm
          repeat' (first | intro _ | refine And.intro ?_ ?_)
          all_goals first | omega | exact finN _
    · simp only [if_neg e] at hK
      have go : Rn 228 3 [some (vR 149), some (vI k), some (vI x), some (vI y), some (vI z), some (vI lg), some (vI (p + 1)), u] [] (T0 n) σ K := ih (p + 1) σ st b c u (by omega) (by omega) hq hb hc (by omega) hK
      rcases h01 p p0 p1 with c0 | c0
      · simp only [s228_5, s228_7, s228_10, s228_11, s228_14, s228_15, s228_17, s228_18, s228_19, s228_22, s228_23, s228_26, s228_29, s228_31, s228_32, s228_33, s228_152, s228_155, sx_push, tf, List.length_cons, List.length_nil, Option.some.injEq, exists_eq_left', Nat.reduceAdd, Nat.reduceLeDiff, true_and, and_true, true_or, or_true, Int.zero_add, Nat.zero_le, eq_self, ne_eq, not_true_eq_false, not_false_eq_true, false_implies, true_implies, implies_true, b2i_0, b2i_1, b2i_01, up_sc, sc_at, sc_sc, ite_true, ite_false, if_true, if_false, Nat.reduceEqDiff, reduceIte, q1, c0]
        repeat' (first | intro _ | refine And.intro ?_ ?_)
        all_goals first | omega | exact go | contradiction
      · by_cases c1 : f (160 + p) = k - 1
        · have t := (ht p p0 p1 c0).2.2 (by omega)
          have c2' : st (f (200 + p)) ≠ 1 := fun z => e ⟨c0, c1, z⟩
          simp only [s228_5, s228_7, s228_10, s228_11, s228_14, s228_15, s228_17, s228_18, s228_19, s228_22, s228_23, s228_26, s228_29, s228_31, s228_32, s228_33, s228_34, s228_35, s228_36, s228_39, s228_40, s228_43, s228_44, s228_47, s228_50, s228_52, s228_53, s228_54, s228_55, s228_56, s228_59, s228_152, s228_155, sx_push, tf, List.length_cons, List.length_nil, Option.some.injEq, exists_eq_left', Nat.reduceAdd, Nat.reduceLeDiff, true_and, and_true, true_or, or_true, Int.zero_add, Nat.zero_le, eq_self, ne_eq, not_true_eq_false, not_false_eq_true, false_implies, true_implies, implies_true, b2i_0, b2i_1, b2i_01, up_sc, sc_at, sc_sc, ite_true, ite_false, if_true, if_false, Nat.reduceEqDiff, reduceIte, q1, c0, c1, q2 _ t.1.1 t.1.2]
          repeat' (first | intro _ | refine And.intro ?_ ?_)
          all_goals first | omega | exact go | contradiction
        · simp only [s228_5, s228_7, s228_10, s228_11, s228_14, s228_15, s228_17, s228_18, s228_19, s228_22, s228_23, s228_26, s228_29, s228_31, s228_32, s228_33, s228_34, s228_35, s228_36, s228_152, s228_155, sx_push, tf, List.length_cons, List.length_nil, Option.some.injEq, exists_eq_left', Nat.reduceAdd, Nat.reduceLeDiff, true_and, and_true, true_or, or_true, Int.zero_add, Nat.zero_le, eq_self, ne_eq, not_true_eq_false, not_false_eq_true, false_implies, true_implies, implies_true, b2i_0, b2i_1, b2i_01, up_sc, sc_at, sc_sc, ite_true, ite_false, if_true, if_false, Nat.reduceEqDiff, reduceIte, q1, c0]
          repeat' (first | intro _ | refine And.intro ?_ ?_)
          all_goals first | omega | exact go | contradiction
end S1
