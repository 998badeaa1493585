/-! points of the class: one that settles, comes -/
theorem oq (o : Nat) : ((o + 1 = o) = False) ∧ ((o + 2 = o) = False) ∧ ((o + 3 = o) = False) ∧ ((o + 4 = o) = False) ∧ ((o = o + 1) = False) ∧ ((o = o + 2) = False) ∧ ((o = o + 3) = False) ∧ ((o = o + 4) = False) ∧ ((o + 1 = o + 2) = False) ∧ ((o + 1 = o + 3) = False) ∧ ((o + 1 = o + 4) = False) ∧ ((o + 2 = o + 1) = False) ∧ ((o + 2 = o + 3) = False) ∧ ((o + 2 = o + 4) = False) ∧ ((o + 3 = o + 1) = False) ∧ ((o + 3 = o + 2) = False) ∧ ((o + 3 = o + 4) = False) ∧ ((o + 4 = o + 1) = False) ∧ ((o + 4 = o + 2) = False) ∧ ((o + 4 = o + 3) = False) := by
  refine ⟨?_, ?_, ?_, ?_, ?_, ?_, ?_, ?_, ?_, ?_, ?_, ?_, ?_, ?_, ?_, ?_, ?_, ?_, ?_, ?_⟩ <;> exact eq_false (by omega)
/-- all but the cells a .. b are as they were -/
def fr (σ σ' : sxS) (a b : Nat) : Prop := ∀ k, (k < a ∨ b < k) → σ' k = σ k
theorem fr_rfl {σ : sxS} {a b : Nat} : fr σ σ a b := fun _ _ => rfl
theorem fr_tr {σ σ' σ2 : sxS} {a b : Nat} (h : fr σ σ' a b) (h2 : fr σ' σ2 a b) : fr σ σ2 a b := fun k hk => (h2 k hk).trans (h k hk)
theorem fr_w {σ σ' : sxS} {a b c d : Nat} (h : fr σ σ' a b) (hc : c ≤ a) (hd : b ≤ d) : fr σ σ' c d := fun k hk => h k (by omega)
theorem fr_sc {σ σ' : sxS} {a b k : Nat} {g : Int → Int} (h : fr σ σ' a b) (h1 : a ≤ k) (h2 : k ≤ b) : fr σ (sc σ' k g) a b := fun j hj => by
  rw [sc_at, if_neg (by omega)]; exact h j hj
theorem lv_level {f : Int → Int} {x y z r : Int} (hw : wfc f) (hx : in8 x) (hy : in8 y) (hz : in8 z) (r0 : 0 ≤ r) (r1 : r < 40) (hr : f r = 1) (hr' : 10 ≤ f (160 + r)) : ∀ (m : Nat) (k : Int), k + m = 10 → 1 ≤ k → levelF f x y z (m + 1) k = lvF f x y z m k := by
  intro m
  induction m with
  | zero =>
    intro k h1 h2
    obtain rfl : k = 10 := by omega
    unfold levelF lvF
    have hn : near f 10 x y z ≠ -1 := near_some r0 r1 ⟨hr, hr'⟩
    rw [if_pos]
    · rfl
    · refine ⟨hn, ?_⟩
      rcases near_in f 10 x y z with h | ⟨n0, n1, -, -⟩
      · exact absurd h hn
      · have hf := farT_in (f := f) hw n0 n1 hx hy hz
        have : (2 : Int) ^ (10 : Int).toNat = 1024 := by decide
        omega
  | succ m ih =>
    intro k h1 h2
    rw [show levelF f x y z (m + 1 + 1) k = if near f k x y z ≠ -1 ∧ farT f (near f k x y z) x y z < 2 ^ k.toNat then k - 1 else levelF f x y z (m + 1) (k + 1) from rfl]
    unfold lvF
    split
    · rfl
    · exact ih _ (by omega) (by omega)
theorem level_none {f : Int → Int} {x y z : Int} (h : ∀ p, 0 ≤ p → p < 40 → f p ≠ 1) : levelO f x y z = 10 := by
  have hn : ∀ k, near f k x y z = -1 := fun k => by
    rcases near_in f k x y z with e | ⟨n0, n1, n2, -⟩
    · exact e
    · exact absurd n2 (h _ n0 n1)
  have : ∀ (m : Nat) (k : Int), levelF f x y z m k = 10 := by
    intro m
    induction m with
    | zero => intro k; rfl
    | succ m ih =>
      intro k
      unfold levelF
      rw [if_neg (fun z => z.1 (hn k))]
      exact ih _
  exact this _ _
theorem root_eq {f : Int → Int} (hi : invF f) {r : Int} (r0 : 0 ≤ r) (r1 : r < 40) (hr : f r = 1) (hl : f (160 + r) = 10) : rootF f 40 0 = r := ((root_iff hi.2.2.2 hi.2.2.1 r0 r1 hr).mpr hl).symm
theorem root_none {f : Int → Int} (h : ∀ p, 0 ≤ p → p < 40 → f p ≠ 1) : rootF f 40 0 = -1 := by
  rcases rootF_sp f 40 0 with ⟨e, -⟩ | ⟨a, b, c, d⟩
  · exact e
  · exact absurd c (h _ a (by omega))
theorem root_some {f : Int → Int} (hi : invF f) {p : Int} (p0 : 0 ≤ p) (p1 : p < 40) (hp : f p = 1) : (0 ≤ rootF f 40 0 ∧ rootF f 40 0 < 40) ∧ f (rootF f 40 0) = 1 ∧ f (160 + rootF f 40 0) = 10 := by
  obtain ⟨r, r0, r1, r2, r3⟩ := hi.2.2.2.2 p p0 p1 hp
  rw [root_eq hi r0 r1 r2 r3]
  exact ⟨⟨r0, r1⟩, r2, r3⟩
theorem root_m1 {f : Int → Int} (hi : invF f) (h : rootF f 40 0 = -1) : ∀ p, 0 ≤ p → p < 40 → f p ≠ 1 := fun p p0 p1 hp => by
  have := root_some hi p0 p1 hp
  omega
theorem root_n1 {f : Int → Int} (hi : invF f) (h : rootF f 40 0 ≠ -1) : (0 ≤ rootF f 40 0 ∧ rootF f 40 0 < 40) ∧ f (rootF f 40 0) = 1 ∧ f (160 + rootF f 40 0) = 10 := by
  rcases rootF_sp f 40 0 with ⟨e, -⟩ | ⟨a, b, c, d⟩
  · exact absurd e h
  · exact root_some hi a (by omega) c
theorem cntF_add (f : Int → Int) : ∀ (k : Nat) (p a d : Int), cntF f k p (a + d) = cntF f k p a + d := by
  intro k
  induction k with
  | zero => intro p a d; rfl
  | succ k ih =>
    intro p a d
    unfold cntF
    rw [show a + d + f p = (a + f p) + d by omega]
    exact ih _ _ _
theorem cntF_congr {f g : Int → Int} : ∀ (k : Nat) (p a : Int), (∀ q, p ≤ q → q < p + k → f q = g q) → cntF f k p a = cntF g k p a := by
  intro k
  induction k with
  | zero => intro p a _; rfl
  | succ k ih =>
    intro p a h
    unfold cntF
    rw [h p (by omega) (by omega)]
    exact ih _ _ (fun q a b => h q (by omega) (by omega))
theorem cntF_one {f g : Int → Int} {r d : Int} (hd : g r = f r + d) : ∀ (k : Nat) (p a : Int), p ≤ r → r < p + k → (∀ q, p ≤ q → q < p + k → q ≠ r → g q = f q) → cntF g k p a = cntF f k p a + d := by
  intro k
  induction k with
  | zero => intro p a h1 h2 _; omega
  | succ k ih =>
    intro p a h1 h2 h
    unfold cntF
    by_cases e : p = r
    · subst e
      rw [hd, show a + (f p + d) = (a + f p) + d by omega, cntF_add, cntF_congr (g := f) k (p + 1) (a + f p) (fun q a b => h q (by omega) (by omega) (by omega))]
    · rw [h p (by omega) (by omega) e]
      exact ih _ _ (by omega) (by omega) (fun q a b c => h q (by omega) (by omega) c)
theorem cntF_in {f : Int → Int} (h : th01 f) : ∀ (k : Nat) (p a : Int), 0 ≤ p → p + k ≤ 40 → a ≤ cntF f k p a ∧ cntF f k p a ≤ a + k := by
  intro k
  induction k with
  | zero => intro p a _ _; unfold cntF; omega
  | succ k ih =>
    intro p a h0 h1
    unfold cntF
    have := h p h0 (by omega)
    have := ih (p + 1) (a + f p) (by omega) (by omega)
    omega
/-- who is there, levels, places, parents, the root, how many -/
def rA (σ : sxS) (o : Nat) (f : Int → Int) : Prop := rL σ o f ∧ rP σ o f ∧ σ o 5 = rootF f 40 0 ∧ σ o 6 = cntF f 40 0 0
section C6
variable {n : Nat} {σ : sxS} {K : Option sxV → sxT → sxS → Prop} {o : Nat} {f : Int → Int}
theorem x37 (ho : isP o) (hr : rL σ o f) (hw : wfc f) {p low x y z : Int} (h0 : 0 ≤ p) (h1 : p < 40) (hl : 0 ≤ low) (hl' : low ≤ 9) (hx : in8 x) (hy : in8 y) (hz : in8 z) (hK : ∀ σ', fr σ σ' o (o + 4) → σ' (o + 1) = σ (o + 1) → σ' (o + 4) = σ (o + 4) → σ' o = (if σ o 5 = -1 then up1 (σ o) 5 p else σ o) → σ' (o + 2) = up1 (σ (o + 2)) p (if σ o 5 = -1 then 10 else lvF f x y z (9 - low).toNat (low + 1)) → σ' (o + 3) = up1 (σ (o + 3)) p (if σ o 5 = -1 then -1 else near f (lvF f x y z (9 - low).toNat (low + 1) + 1) x y z) → K none (T0 n) σ') : Rn 37 0 [some (vR o), some (vI p), some (vI low), some (vI (pk x y z)), none] [] (T0 n) σ K := by
  have li := lvF_in f x y z (9 - low).toNat (low + 1) (by omega) (by omega)
  by_cases e : σ o 5 = -1
  · simp only [if_pos e] at hK
    simp only [s37_0, s37_1, s37_4, s37_5, s37_8, s37_9, s37_10, s37_13, s37_14, s37_17, s37_18, s37_20, s37_21, s37_22, s37_25, s37_26, s37_27, s37_28, s37_31, s37_32, s37_33, s37_34, s37_37, s37_39, s37_40, s37_43, s37_44, s37_45, s37_47, s37_48, s37_49, s37_50, s37_53, s37_54, s37_55, s37_58, s37_59, s37_61, s37_62, sx_push, tf, List.length_cons, List.length_nil, Option.some.injEq, exists_eq_left', Nat.reduceAdd, Nat.reduceLeDiff, true_and, and_true, true_or, or_true, Int.zero_add, Nat.zero_le, eq_self, ne_eq, not_true_eq_false, not_false_eq_true, false_implies, true_implies, implies_true, b2i_0, b2i_1, b2i_01, up_sc, sc_at, sc_sc, ite_true, ite_false, if_true, if_false, Nat.reduceEqDiff, reduceIte, tp ho, oq o, e]
    repeat' (first | intro _ | refine And.intro ?_ ?_)
    all_goals first | omega | skip
    refine hK _ ?_ ?_ ?_ ?_ ?_ ?_
    · exact fr_sc (fr_sc (fr_sc fr_rfl (by omega) (by omega)) (by omega) (by omega)) (by omega) (by omega)
    all_goals simp [sc_at]
  · simp only [if_neg e] at hK
    simp only [s37_0, s37_1, s37_4, s37_5, s37_8, s37_9, s37_10, s37_13, s37_14, s37_17, s37_18, s37_20, s37_21, s37_22, s37_25, s37_26, s37_27, s37_28, s37_31, s37_32, s37_33, s37_34, s37_37, s37_39, s37_40, s37_43, s37_44, s37_45, s37_47, s37_48, s37_49, s37_50, s37_53, s37_54, s37_55, s37_58, s37_59, s37_61, s37_62, sx_push, tf, List.length_cons, List.length_nil, Option.some.injEq, exists_eq_left', Nat.reduceAdd, Nat.reduceLeDiff, true_and, and_true, true_or, or_true, Int.zero_add, Nat.zero_le, eq_self, ne_eq, not_true_eq_false, not_false_eq_true, false_implies, true_implies, implies_true, b2i_0, b2i_1, b2i_01, up_sc, sc_at, sc_sc, ite_true, ite_false, if_true, if_false, Nat.reduceEqDiff, reduceIte, tp ho, oq o, e, x38 ho hr hw hl hl' hx hy hz, x39 ho hr hw (show 0 ≤ lvF f x y z (9 - low).toNat (low + 1) + 1 by omega) hx hy hz]
    repeat' (first | intro _ | refine And.intro ?_ ?_)
    all_goals first | omega | skip
    refine hK _ ?_ ?_ ?_ ?_ ?_ ?_
    · exact fr_sc (fr_sc fr_rfl (by omega) (by omega)) (by omega) (by omega)
    all_goals simp [sc_at]
theorem comesF_pl {p x y z : Int} (h0 : 0 ≤ p) (h1 : p < 40) : comesF f p x y z (40 + p) = x ∧ comesF f p x y z (80 + p) = y ∧ comesF f p x y z (120 + p) = z := by
  unfold comesF
  refine ⟨?_, ?_, ?_⟩
  · rw [up1_n (by omega), up1_n (by omega), up1_n (by omega), up1_n (by omega), up1_s]
  · rw [up1_n (by omega), up1_n (by omega), up1_n (by omega), up1_s]
  · rw [up1_n (by omega), up1_n (by omega), up1_s]
theorem x36 (ho : isP o) (ha : rA σ o f) (hi : invF f) (hm : σ o 4 = f 480) {p x y z : Int} (h0 : 0 ≤ p) (h1 : p < 40) (hp : f p = 0) (hx : in8 x) (hy : in8 y) (hz : in8 z) (hK : ∀ σ', fr σ σ' o (o + 4) → σ' (o + 4) = σ (o + 4) → σ' o 4 = σ o 4 → (∀ q, q ≠ p → σ' (o + 1) q = σ (o + 1) q ∧ σ' (o + 2) q = σ (o + 2) q) → rA σ' o (comesF f p x y z) → K none (T0 n) σ') : Rn 36 0 [some (vR o), some (vI p), some (vI (pk x y z))] [] (T0 n) σ K := by
  obtain ⟨hr, hpar, hroot, hcnt⟩ := ha
  have hi' := inv_comes hi h0 h1 (by omega) hx hy hz
  have hc0 := cntF_in hi.1 40 0 0 (by omega) (by omega)
  simp only [s36_0, s36_1, s36_4, s36_5, s36_7, s36_10, s36_11, s36_12, s36_13, s36_14, s36_17, s36_18, s36_21, s36_22, s36_23, s36_24, s36_25, s36_26, s36_29, s36_30, s36_31, s36_34, sx_push, tf, List.length_cons, List.length_nil, Option.some.injEq, exists_eq_left', Nat.reduceAdd, Nat.reduceLeDiff, true_and, and_true, true_or, or_true, Int.zero_add, Nat.zero_le, eq_self, ne_eq, not_true_eq_false, not_false_eq_true, false_implies, true_implies, implies_true, b2i_0, b2i_1, b2i_01, up_sc, sc_at, sc_sc, ite_true, ite_false, if_true, if_false, Nat.reduceEqDiff, reduceIte, tp ho, oq o]
  repeat' (first | intro _ | refine And.intro ?_ ?_)
  all_goals first | omega | skip
  refine x37 ho hr hi.2.1 h0 h1 (by omega) (by omega) hx hy hz (fun σ' e1 e2 e3 e4 e5 e6 => ?_)
  simp only [s36_0, s36_1, s36_4, s36_5, s36_7, s36_10, s36_11, s36_12, s36_13, s36_14, s36_17, s36_18, s36_21, s36_22, s36_23, s36_24, s36_25, s36_26, s36_29, s36_30, s36_31, s36_34, sx_push, tf, List.length_cons, List.length_nil, Option.some.injEq, exists_eq_left', Nat.reduceAdd, Nat.reduceLeDiff, true_and, and_true, true_or, or_true, Int.zero_add, Nat.zero_le, eq_self, ne_eq, not_true_eq_false, not_false_eq_true, false_implies, true_implies, implies_true, b2i_0, b2i_1, b2i_01, up_sc, sc_at, sc_sc, ite_true, ite_false, if_true, if_false, Nat.reduceEqDiff, reduceIte, tp ho, oq o]
  have t := comesF_t (f := f) (x := x) (y := y) (z := z) h0 h1
  have tpl := comesF_pl (f := f) (x := x) (y := y) (z := z) h0 h1
  have ne : ∀ q, 0 ≤ q → q < 40 → q ≠ p → comesF f p x y z q = f q ∧ comesF f p x y z (160 + q) = f (160 + q) ∧ comesF f p x y z (200 + q) = f (200 + q) ∧ comesF f p x y z (40 + q) = f (40 + q) ∧ comesF f p x y z (80 + q) = f (80 + q) ∧ comesF f p x y z (120 + q) = f (120 + q) := fun q q0 q1 e => ⟨comesF_n (by omega) (by omega) (by omega) (by omega) (by omega) (by omega), comesF_n (by omega) (by omega) (by omega) (by omega) (by omega) (by omega), comesF_n (by omega) (by omega) (by omega) (by omega) (by omega) (by omega), comesF_n (by omega) (by omega) (by omega) (by omega) (by omega) (by omega), comesF_n (by omega) (by omega) (by omega) (by omega) (by omega) (by omega), comesF_n (by omega) (by omega) (by omega) (by omega) (by omega) (by omega)⟩
  have n480 : comesF f p x y z 480 = f 480 := comesF_n (by omega) (by omega) (by omega) (by omega) (by omega) (by omega)
  have hl : comesF f p x y z (160 + p) = (if σ o 5 = -1 then 10 else lvF f x y z (9 - 0 : Int).toNat (0 + 1)) ∧ comesF f p x y z (200 + p) = (if σ o 5 = -1 then -1 else near f (lvF f x y z (9 - 0 : Int).toNat (0 + 1) + 1) x y z) := by
    by_cases e : σ o 5 = -1
    · have := level_none (f := f) (x := x) (y := y) (z := z) (root_m1 hi (by omega))
      rw [if_pos e, if_pos e, t.2.1, t.2.2, this, if_pos rfl]
      exact ⟨rfl, rfl⟩
    · have rs := root_n1 hi (by omega)
      have := lv_level hi.2.1 hx hy hz rs.1.1 rs.1.2 rs.2.1 (by omega) 9 1 (by omega) (by omega)
      have l2 := lvF_in f x y z 9 1 (by omega) (by omega)
      rw [if_neg e, if_neg e, t.2.1, t.2.2, show levelO f x y z = lvF f x y z 9 1 from this, if_neg (by omega)]
      exact ⟨rfl, rfl⟩
  have hb : 0 ≤ comesF f p x y z (160 + p) ∧ comesF f p x y z (160 + p) ≤ 10 := ⟨(hi'.2.2.1 p h0 h1 t.1).1, (hi'.2.2.1 p h0 h1 t.1).2.1⟩
  have c5 : σ' o 5 = if σ o 5 = -1 then p else σ o 5 := by rw [e4]; split <;> simp [up1]
  have c6 : σ' o 6 = σ o 6 := by rw [e4]; split <;> simp [up1]
  have c4 : σ' o 4 = σ o 4 := by rw [e4]; split <;> simp [up1]
  refine ⟨⟨h0, h1⟩, by omega, hK _ ?_ ?_ ?_ ?_ ?_⟩
  · exact fr_sc (fr_sc e1 (by omega) (by omega)) (by omega) (by omega)
  · simp [sc_at, e3]
  · simp [sc_at, up1, c4]
  · intro q hq
    simp [sc_at, up1, e2, e5, hq]
  · refine ⟨fun q q0 q1 => ?_, fun q q0 q1 hq => ?_, ?_, ?_⟩
    · simp only [sc_at, oq o, if_true, if_false, up1, Int.reduceEq, c4]
      by_cases e : q = p
      · subst e
        refine Or.inl ⟨t.1, ?_, hb.1, hb.2, ?_, ?_⟩
        · rw [e5, up1_s]; exact hl.1.symm
        · simp [tpl]
        · rw [hm, n480]
      · have ne := ne q q0 q1 e
        rw [ne.1, ne.2.1, ne.2.2.2.1, ne.2.2.2.2.1, ne.2.2.2.2.2, n480, e5, up1_n e, if_neg e, e2]
        exact hr q q0 q1
    · simp only [sc_at, oq o, if_false]
      by_cases e : q = p
      · subst e; rw [e6, up1_s]; exact hl.2.symm
      · have ne := ne q q0 q1 e
        rw [ne.1] at hq
        rw [e6, up1_n e, ne.2.2.1]
        exact hpar q q0 q1 hq
    · simp only [sc_at, oq o, if_true, if_false, up1, Int.reduceEq]
      rw [c5]
      by_cases e : σ o 5 = -1
      · rw [if_pos e]
        rw [if_pos e] at hl
        exact (root_eq hi' h0 h1 t.1 hl.1).symm
      · rw [if_neg e]
        have rs := root_n1 hi (by omega)
        have ne := ne _ rs.1.1 rs.1.2 (fun z => by rw [z] at rs; omega)
        rw [hroot]
        exact (root_eq hi' rs.1.1 rs.1.2 (by rw [ne.1]; exact rs.2.1) (by rw [ne.2.1]; exact rs.2.2)).symm
    · simp only [sc_at, oq o, if_true, if_false, up1, Int.reduceEq]
      rw [c6, hcnt, cntF_one (f := f) (g := comesF f p x y z) (r := p) (d := 1) (by rw [t.1]; omega) 40 0 0 h0 (by omega) (fun q q0 q1 e => (ne q (by omega) (by omega) e).1)]
end C6
