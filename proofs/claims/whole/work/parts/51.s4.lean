/-! searches: the class -/
theorem oq6 (o : Nat) : ((o = o + 1) = False) ∧ ((o = o + 2) = False) ∧ ((o = o + 3) = False) ∧ ((o = o + 4) = False) ∧ ((o = o + 5) = False) ∧ ((o = o + 6) = False) ∧ ((o + 1 = o) = False) ∧ ((o + 1 = o + 2) = False) ∧ ((o + 1 = o + 3) = False) ∧ ((o + 1 = o + 4) = False) ∧ ((o + 1 = o + 5) = False) ∧ ((o + 1 = o + 6) = False) ∧ ((o + 2 = o) = False) ∧ ((o + 2 = o + 1) = False) ∧ ((o + 2 = o + 3) = False) ∧ ((o + 2 = o + 4) = False) ∧ ((o + 2 = o + 5) = False) ∧ ((o + 2 = o + 6) = False) ∧ ((o + 3 = o) = False) ∧ ((o + 3 = o + 1) = False) ∧ ((o + 3 = o + 2) = False) ∧ ((o + 3 = o + 4) = False) ∧ ((o + 3 = o + 5) = False) ∧ ((o + 3 = o + 6) = False) ∧ ((o + 4 = o) = False) ∧ ((o + 4 = o + 1) = False) ∧ ((o + 4 = o + 2) = False) ∧ ((o + 4 = o + 3) = False) ∧ ((o + 4 = o + 5) = False) ∧ ((o + 4 = o + 6) = False) ∧ ((o + 5 = o) = False) ∧ ((o + 5 = o + 1) = False) ∧ ((o + 5 = o + 2) = False) ∧ ((o + 5 = o + 3) = False) ∧ ((o + 5 = o + 4) = False) ∧ ((o + 5 = o + 6) = False) ∧ ((o + 6 = o) = False) ∧ ((o + 6 = o + 1) = False) ∧ ((o + 6 = o + 2) = False) ∧ ((o + 6 = o + 3) = False) ∧ ((o + 6 = o + 4) = False) ∧ ((o + 6 = o + 5) = False) := by
  refine ⟨?_, ?_, ?_, ?_, ?_, ?_, ?_, ?_, ?_, ?_, ?_, ?_, ?_, ?_, ?_, ?_, ?_, ?_, ?_, ?_, ?_, ?_, ?_, ?_, ?_, ?_, ?_, ?_, ?_, ?_, ?_, ?_, ?_, ?_, ?_, ?_, ?_, ?_, ?_, ?_, ?_, ?_⟩ <;> exact eq_false (by omega)
theorem rL_fr {σ σ' : sxS} {f : Int → Int} {a b : Nat} (h : fr σ σ' a b) (ha : 11 < a) (hr : rL σ 7 f) : rL σ' 7 f := fun p x y => by
  rw [h (7 + 2) (by omega), h (7 + 1) (by omega), h 7 (by omega)]; exact hr p x y
theorem rP_fr {σ σ' : sxS} {f : Int → Int} {a b : Nat} (h : fr σ σ' a b) (ha : 11 < a) (hr : rP σ 7 f) : rP σ' 7 f := fun p x y => by
  rw [h (7 + 3) (by omega)]; exact hr p x y
theorem brF_in {f : Int → Int} (ht : tree f) {o : Int} : ∀ (m : Nat) (u : Int), 0 ≤ u → u < 40 → f u = 1 → brF f o m u = -1 ∨ ((0 ≤ brF f o m u ∧ brF f o m u < 40) ∧ f (brF f o m u) = 1) := by
  intro m
  induction m with
  | zero => intro u _ _ _; exact Or.inl rfl
  | succ m ih =>
    intro u u0 u1 hu
    unfold brF
    split
    · exact Or.inr ⟨⟨u0, u1⟩, hu⟩
    · split
      · rename_i z
        have t := (ht u u0 u1 hu).2.2 z
        exact ih _ t.1.1 t.1.2 t.2.1
      · exact Or.inl rfl
theorem brO_in {f : Int → Int} (ht : tree f) {o q : Int} : brO f o q = -1 ∨ ((0 ≤ brO f o q ∧ brO f o q < 40) ∧ f (brO f o q) = 1) := by
  unfold brO
  split
  · rename_i z
    exact brF_in ht 11 q z.1.1 z.1.2 z.2
  · exact Or.inl rfl
section S4
variable {n : Nat} {σ : sxS} {K : Option sxV → sxT → sxS → Prop} {f : Int → Int} {o : Nat}
theorem x83 (hr : rL σ 7 f) (hp : rP σ 7 f) (ht : tree f) (hz : rtP f) {q p k : Int} (p0 : 0 ≤ p) (p1 : p < 40) (hpp : f p = 1) (hk : -100 ≤ k) (hk' : k ≤ 1000) : Rn 83 0 [some (vR 7), some (vI q), some (vI p), some (vI k), none] [] (T0 n) σ K ↔ K (some (vI (b2i (spB f p k q = true)))) (T0 n) σ := by
  refine Rn_iff fun K hK => ?_
  have e : spB f p k q = true ↔ (brO f p q ≠ -1 ∧ f (160 + brO f p q) < k - 1) := by unfold spB; rw [decide_eq_true_eq]
  have x49' := fun K => x49 (n := n) (σ := σ) (K := K) isP7 hr (p := p)
  rw [b2i_t ⟨⟨p0, p1⟩, hpp⟩] at x49'
  rcases brO_in ht (o := p) (q := q) with b | ⟨⟨b0, b1⟩, b2⟩
  · rw [b2i_f (fun z => (e.mp z).1 b)] at hK
    simp only [s83_0, s83_1, s83_2, s83_5, s83_8, s83_9, s83_10, s83_11, s83_14, s83_17, s83_18, s83_20, s83_22, s83_23, s83_26, s83_27, s83_30, s83_32, s83_33, s83_34, s83_35, s83_36, s83_39, s83_40, s83_43, s83_44, Int.reduceToNat, Int.reducePow, Nat.reducePow, Int.reduceLE, Int.reduceLT, Int.reduceNeg, Int.reduceEq, Int.reduceNe, Int.reduceAdd, Int.reduceSub, Int.reduceMul, and_self, sx_push, tf, List.length_cons, List.length_nil, Option.some.injEq, exists_eq_left', Nat.reduceAdd, Nat.reduceLeDiff, true_and, and_true, true_or, or_true, Int.zero_add, Nat.zero_le, eq_self, ne_eq, not_true_eq_false, not_false_eq_true, false_implies, true_implies, implies_true, b2i_0, b2i_1, b2i_01, up_sc, sc_at, sc_sc, ite_true, ite_false, if_true, if_false, Nat.reduceEqDiff, reduceIte, x49', x56 isP7 hr hp ht hz p0, b]
    repeat' (first | intro _ | refine And.intro ?_ ?_)
    all_goals first | exact hK | omega | contradiction
  · have c2 : σ 9 (brO f p q) = f (160 + brO f p q) := rL_v hr _ b0 b1 b2
    simp only [s83_0, s83_1, s83_2, s83_5, s83_8, s83_9, s83_10, s83_11, s83_14, s83_17, s83_18, s83_20, s83_22, s83_23, s83_26, s83_27, s83_30, s83_32, s83_33, s83_34, s83_35, s83_36, s83_39, s83_40, s83_43, s83_44, Int.reduceToNat, Int.reducePow, Nat.reducePow, Int.reduceLE, Int.reduceLT, Int.reduceNeg, Int.reduceEq, Int.reduceNe, Int.reduceAdd, Int.reduceSub, Int.reduceMul, and_self, sx_push, tf, List.length_cons, List.length_nil, Option.some.injEq, exists_eq_left', Nat.reduceAdd, Nat.reduceLeDiff, true_and, and_true, true_or, or_true, Int.zero_add, Nat.zero_le, eq_self, ne_eq, not_true_eq_false, not_false_eq_true, false_implies, true_implies, implies_true, b2i_0, b2i_1, b2i_01, up_sc, sc_at, sc_sc, ite_true, ite_false, if_true, if_false, Nat.reduceEqDiff, reduceIte, x49', x56 isP7 hr hp ht hz p0, c2]
    by_cases c : f (160 + brO f p q) < k - 1
    · rw [b2i_t (e.mpr ⟨by omega, c⟩)] at hK
      repeat' (first | intro _ | refine And.intro ?_ ?_)
      all_goals first | exact hK | omega
    · rw [b2i_f (fun z => c (e.mp z).2)] at hK
      repeat' (first | intro _ | refine And.intro ?_ ?_)
      all_goals first | exact hK | omega
theorem x82l (hr : rL σ 7 f) (hpr : rP σ 7 f) (ht : tree f) (hz : rtP f) {r k' : Int} (p0 : 0 ≤ r) (p1 : r < 40) (hpp : f r = 1) (hk : -100 ≤ k') (hk' : k' ≤ 1000) : ∀ (k : Nat) (p a : Int), p + k = 40 → 0 ≤ p → 0 ≤ a → a ≤ p → K (some (vI (cnt (fun p => decide (spB f r k' p = true)) k p a))) (T0 n) σ → Rn 82 5 [some (vR 7), some (vI r), some (vI k'), some (vI a), some (vI p)] [] (T0 n) σ K := by
  intro k
  induction k with
  | zero =>
    intro p a hp h0 ha ha' hK
    rw [s82_5]
    simp only [s82_0, s82_1, s82_2, s82_3, s82_7, s82_9, s82_12, s82_13, s82_15, s82_16, s82_17, s82_20, s82_23, s82_26, s82_29, s82_32, s82_33, sx_push, tf, List.length_cons, List.length_nil, Option.some.injEq, exists_eq_left', Nat.reduceAdd, Nat.reduceLeDiff, true_and, and_true, true_or, or_true, Int.zero_add, Nat.zero_le, eq_self, ne_eq, not_true_eq_false, not_false_eq_true, false_implies, true_implies, implies_true, b2i_0, b2i_1, b2i_01, up_sc, sc_at, sc_sc, ite_true, ite_false, if_true, if_false, Nat.reduceEqDiff, reduceIte]
    repeat' (first | intro _ | refine And.intro ?_ ?_)
    all_goals first | exact hK | omega
  | succ k ih =>
    intro p a hp h0 ha ha' hK
    have h1 : p < 40 := by omega
    unfold cnt at hK
    simp only [decide_eq_true_eq] at hK
    rw [s82_5]
    simp only [s82_0, s82_1, s82_2, s82_3, s82_7, s82_9, s82_12, s82_13, s82_15, s82_16, s82_17, s82_20, s82_23, s82_26, s82_29, s82_32, s82_33, sx_push, tf, List.length_cons, List.length_nil, Option.some.injEq, exists_eq_left', Nat.reduceAdd, Nat.reduceLeDiff, true_and, and_true, true_or, or_true, Int.zero_add, Nat.zero_le, eq_self, ne_eq, not_true_eq_false, not_false_eq_true, false_implies, true_implies, implies_true, b2i_0, b2i_1, b2i_01, up_sc, sc_at, sc_sc, ite_true, ite_false, if_true, if_false, Nat.reduceEqDiff, reduceIte, x83 hr hpr ht hz p0 p1 hpp hk hk', Int.add_zero]
    repeat' (first | intro _ | refine And.intro ?_ ?_)
    all_goals first | omega | (split at hK <;> first | contradiction | exact hK | omega | exact ih _ _ (by omega) (by omega) (by omega) (by omega) hK)
theorem x82 (hr : rL σ 7 f) (hpr : rP σ 7 f) (ht : tree f) (hz : rtP f) {r k' : Int} (p0 : 0 ≤ r) (p1 : r < 40) (hpp : f r = 1) (hk : -100 ≤ k') (hk' : k' ≤ 1000) : Rn 82 0 [some (vR 7), some (vI r), some (vI k'), none, none] [] (T0 n) σ K ↔ K (some (vI (cnt (fun p => decide (spB f r k' p = true)) 40 0 0))) (T0 n) σ := by
  refine Rn_iff fun K hK => ?_
  simp only [s82_0, s82_1, s82_2, s82_3, s82_7, s82_9, s82_12, s82_13, s82_15, s82_16, s82_17, s82_20, s82_23, s82_26, s82_29, s82_32, s82_33, sx_push, tf, List.length_cons, List.length_nil, Option.some.injEq, exists_eq_left', Nat.reduceAdd, Nat.reduceLeDiff, true_and, and_true, true_or, or_true, Int.zero_add, Nat.zero_le, eq_self, ne_eq, not_true_eq_false, not_false_eq_true, false_implies, true_implies, implies_true, b2i_0, b2i_1, b2i_01, up_sc, sc_at, sc_sc, ite_true, ite_false, if_true, if_false, Nat.reduceEqDiff, reduceIte]
  exact x82l hr hpr ht hz p0 p1 hpp hk hk' 40 0 0 (by omega) (by omega) (by omega) (by omega) hK

theorem x82n (hr : rL σ 7 f) (hp : rP σ 7 f) (ht : tree f) (hz : rtP f) {r k' : Int} (p0 : 0 ≤ r) (p1 : r < 40) (hpp : f r = 1) (hk : -100 ≤ k') (hk' : k' ≤ 1000) : Rn 82 0 [some (vR 7), some (vI r), some (vI k'), none, none] [] (T0 n) σ K ↔ K (some (vI (spN f r k'))) (T0 n) σ := by
  have e : spN f r k' = cnt (fun p => decide (spB f r k' p = true)) 40 0 0 := by
    unfold spN
    exact cnt_congr 40 0 0 (fun q _ _ => by simp)
  rw [e]
  exact x82 hr hp ht hz p0 p1 hpp hk hk'
/-- the sign of a search -/
def sgn (σ : sxS) (o : Nat) (lg : Int) : Prop := (lg = 0 ∧ σ o 1 = 1) ∨ (lg = 1 ∧ σ o 1 = -1)
theorem x78 (ho : isS o) (hr : rL σ 7 f) (hw : wfc f) {x y z lg p : Int} (hs : sgn σ o lg) (hx : in8 x) (hy : in8 y) (hz : in8 z) (p0 : 0 ≤ p) (p1 : p < 40) (hp : f p = 1) (hc : 0 ≤ σ o 9 ∧ σ o 9 ≤ 1000) (hb : 0 ≤ σ o 11 ∧ σ o 11 ≤ 765) (hb2 : σ o 10 ≠ -1 → σ o 11 = farT f (σ o 10) x y z) (hK : ∀ σ', fr σ σ' o (o + 6) → σ' (o + 1) = up1 (σ (o + 1)) p (farT f p x y z) → σ' (o + 2) = up1 (σ (o + 2)) p 1 → (σ' (o + 3) = σ (o + 3) ∧ σ' (o + 4) = σ (o + 4) ∧ σ' (o + 5) = σ (o + 5) ∧ σ' (o + 6) = σ (o + 6)) → (∀ j, j < 9 → σ' o j = σ o j) → σ' o 9 = σ o 9 + 1 → σ' o 10 = (if σ o 10 = -1 ∨ btr f x y z lg p (σ o 10) = true then p else σ o 10) → σ' o 11 = (if σ o 10 = -1 ∨ btr f x y z lg p (σ o 10) = true then farT f p x y z else σ o 11) → K none (T0 n) σ') : Rn 78 0 [some (vR o), some (vI p), some (vI (pk x y z)), none] [] (T0 n) σ K := by
  have x49' := fun K => x49 (n := n) (σ := σ) (K := K) isP7 hr (p := p)
  rw [b2i_t ⟨⟨p0, p1⟩, hp⟩] at x49'
  have fp := farT_in hw p0 p1 hx hy hz
  have u1 : ∀ v, up1 (σ o) 9 v 1 = σ o 1 := fun v => up1_n (by decide)
  have u11 : ∀ v, up1 (σ o) 9 v 11 = σ o 11 := fun v => up1_n (by decide)
  have u10 : ∀ v, up1 (σ o) 9 v 10 = σ o 10 := fun v => up1_n (by decide)
  by_cases bb : σ o 10 = -1 ∨ btr f x y z lg p (σ o 10) = true
  · simp only [if_pos bb] at hK
    have fin : K none (T0 n) (sc (sc (sc σ (o + 1) (up1 (σ (o + 1)) p (farT f p x y z))) (o + 2) (up1 (σ (o + 2)) p 1)) o (up1 (up1 (up1 (σ o) 9 (σ o 9 + 1)) 10 p) 11 (farT f p x y z))) := by
      refine hK _ ?_ ?_ ?_ ⟨?_, ?_, ?_, ?_⟩ (fun j hj => ?_) ?_ ?_ ?_
      · exact fr_sc (fr_sc (fr_sc fr_rfl (by omega) (by omega)) (by omega) (by omega)) (by omega) (by omega)
      · simp [sc_at]
      · simp [sc_at]
      · simp [sc_at]
      · simp [sc_at]
      · simp [sc_at]
      · simp [sc_at]
      · simp only [sc_at, reduceIte]; rw [up1_n (by omega), up1_n (by omega), up1_n (by omega)]
      · simp [sc_at, up1]
      · simp [sc_at, up1]
      · simp [sc_at, up1]
    simp only [s78_0, s78_1, s78_4, s78_5, s78_8, s78_11, s78_12, s78_13, s78_16, s78_17, s78_18, s78_21, s78_22, s78_23, s78_26, s78_27, s78_28, s78_31, s78_32, s78_33, s78_34, s78_35, s78_36, s78_39, s78_40, s78_41, s78_44, s78_45, s78_48, s78_49, s78_52, s78_53, s78_54, s78_55, s78_58, s78_59, s78_60, s78_61, s78_62, s78_65, s78_66, s78_69, s78_70, s78_73, s78_74, s78_77, s78_78, s78_79, s78_82, s78_85, s78_86, s78_87, s78_90, s78_91, s78_92, s78_95, s78_96, s78_97, s78_100, Int.reduceToNat, Int.reducePow, Nat.reducePow, Int.reduceLE, Int.reduceLT, Int.reduceNeg, Int.reduceEq, Int.reduceNe, Int.reduceAdd, Int.reduceSub, Int.reduceMul, and_self, sx_push, tf, List.length_cons, List.length_nil, Option.some.injEq, exists_eq_left', Nat.reduceAdd, Nat.reduceLeDiff, true_and, and_true, true_or, or_true, Int.zero_add, Nat.zero_le, eq_self, ne_eq, not_true_eq_false, not_false_eq_true, false_implies, true_implies, implies_true, b2i_0, b2i_1, b2i_01, up_sc, sc_at, sc_sc, ite_true, ite_false, if_true, if_false, Nat.reduceEqDiff, reduceIte, ts ho, oq6 o, x49', x42 isP7 hr hw hx hy hz p0 p1 hp, up1_s, u1, u11, u10]
    by_cases b1 : σ o 10 = -1
    · rcases hs with ⟨rfl, s1⟩ | ⟨rfl, s1⟩
      · simp only [s1]
        repeat' (first | intro _ | refine And.intro ?_ ?_)
        all_goals first | omega | exact fin
      · simp only [s1]
        repeat' (first | intro _ | refine And.intro ?_ ?_)
        all_goals first | omega | exact fin
    · have b2 := bb.resolve_left b1
      have h11 := hb2 b1
      unfold btr at b2
      rcases hs with ⟨rfl, s1⟩ | ⟨rfl, s1⟩
      · rw [if_pos rfl, decide_eq_true_eq] at b2
        simp only [s1]
        repeat' (first | intro _ | refine And.intro ?_ ?_)
        all_goals first | omega | exact fin
      · rw [if_neg (by decide), decide_eq_true_eq] at b2
        simp only [s1]
        repeat' (first | intro _ | refine And.intro ?_ ?_)
        all_goals first | omega | exact fin
  · simp only [if_neg bb] at hK
    have fin : K none (T0 n) (sc (sc (sc σ (o + 1) (up1 (σ (o + 1)) p (farT f p x y z))) (o + 2) (up1 (σ (o + 2)) p 1)) o (up1 (σ o) 9 (σ o 9 + 1))) := by
      refine hK _ ?_ ?_ ?_ ⟨?_, ?_, ?_, ?_⟩ (fun j hj => ?_) ?_ ?_ ?_
      · exact fr_sc (fr_sc (fr_sc fr_rfl (by omega) (by omega)) (by omega) (by omega)) (by omega) (by omega)
      · simp [sc_at]
      · simp [sc_at]
      · simp [sc_at]
      · simp [sc_at]
      · simp [sc_at]
      · simp [sc_at]
      · simp only [sc_at, reduceIte]; rw [up1_n (by omega)]
      · simp [sc_at, up1]
      · simp [sc_at, up1]
      · simp [sc_at, up1]
    have b1 : σ o 10 ≠ -1 := fun z => bb (Or.inl z)
    have b2 : ¬ btr f x y z lg p (σ o 10) = true := fun z => bb (Or.inr z)
    have h11 := hb2 b1
    unfold btr at b2
    simp only [s78_0, s78_1, s78_4, s78_5, s78_8, s78_11, s78_12, s78_13, s78_16, s78_17, s78_18, s78_21, s78_22, s78_23, s78_26, s78_27, s78_28, s78_31, s78_32, s78_33, s78_34, s78_35, s78_36, s78_39, s78_40, s78_41, s78_44, s78_45, s78_48, s78_49, s78_52, s78_53, s78_54, s78_55, s78_58, s78_59, s78_60, s78_61, s78_62, s78_65, s78_66, s78_69, s78_70, s78_73, s78_74, s78_77, s78_78, s78_79, s78_82, s78_85, s78_86, s78_87, s78_90, s78_91, s78_92, s78_95, s78_96, s78_97, s78_100, Int.reduceToNat, Int.reducePow, Nat.reducePow, Int.reduceLE, Int.reduceLT, Int.reduceNeg, Int.reduceEq, Int.reduceNe, Int.reduceAdd, Int.reduceSub, Int.reduceMul, and_self, sx_push, tf, List.length_cons, List.length_nil, Option.some.injEq, exists_eq_left', Nat.reduceAdd, Nat.reduceLeDiff, true_and, and_true, true_or, or_true, Int.zero_add, Nat.zero_le, eq_self, ne_eq, not_true_eq_false, not_false_eq_true, false_implies, true_implies, implies_true, b2i_0, b2i_1, b2i_01, up_sc, sc_at, sc_sc, ite_true, ite_false, if_true, if_false, Nat.reduceEqDiff, reduceIte, ts ho, oq6 o, x49', x42 isP7 hr hw hx hy hz p0 p1 hp, up1_s, u1, u11, u10]
    rcases hs with ⟨rfl, s1⟩ | ⟨rfl, s1⟩
    · rw [if_pos rfl, decide_eq_true_eq] at b2
      simp only [s1]
      repeat' (first | intro _ | refine And.intro ?_ ?_)
      all_goals first | omega | exact fin
    · rw [if_neg (by decide), decide_eq_true_eq] at b2
      simp only [s1]
      repeat' (first | intro _ | refine And.intro ?_ ?_)
      all_goals first | omega | exact fin
end S4
