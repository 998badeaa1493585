/-! how loose nets are, most children, nth: of both -/
def farO (f : Int → Int) (p q : Int) : Int := farT f p (f (40 + q)) (f (80 + q)) (f (120 + q))
theorem farO_in {f : Int → Int} (hw : wfc f) {p q : Int} (h0 : 0 ≤ p) (h1 : p < 40) (g0 : 0 ≤ q) (g1 : q < 40) : 0 ≤ farO f p q ∧ farO f p q ≤ 765 := farF_in (hw p h0 h1).1 (hw p h0 h1).2.1 (hw p h0 h1).2.2 (hw q g0 g1).1 (hw q g0 g1).2.1 (hw q g0 g1).2.2
theorem farT_in {f : Int → Int} (hw : wfc f) {p x y z : Int} (h0 : 0 ≤ p) (h1 : p < 40) (hx : in8 x) (hy : in8 y) (hz : in8 z) : 0 ≤ farT f p x y z ∧ farT f p x y z ≤ 765 := farF_in (hw p h0 h1).1 (hw p h0 h1).2.1 (hw p h0 h1).2.2 hx hy hz
def lfI (f : Int → Int) (l p : Int) : Nat → Int → Int → Int
  | 0, _, a => a
  | k + 1, q, a => lfI f l p k (q + 1) (if ((f p = 1 ∧ l ≤ f (160 + p)) ∧ (f q = 1 ∧ l ≤ f (160 + q))) ∧ (a = -1 ∨ farO f p q < a) then farO f p q else a)
def lfO (f : Int → Int) (l : Int) : Nat → Int → Int → Int
  | 0, _, a => a
  | k + 1, p, a => lfO f l k (p + 1) (lfI f l p k (p + 1) a)
theorem lfI_in (f : Int → Int) (hw : wfc f) (l p : Int) (h0 : 0 ≤ p) (h1 : p < 40) : ∀ (k : Nat) (q a : Int), q + k = 40 → 0 ≤ q → -1 ≤ a → -1 ≤ lfI f l p k q a := by
  intro k
  induction k with
  | zero => intro q a _ _ h; exact h
  | succ k ih =>
    intro q a hq q0 ha
    unfold lfI
    refine ih _ _ (by omega) (by omega) ?_
    have := farO_in hw h0 h1 q0 (by omega)
    split <;> omega
def mfF (f : Int → Int) (l : Int) : Nat → Int → Int → Int
  | 0, _, a => a
  | k + 1, p, a => mfF f l k (p + 1) (if f p = 1 then max a (farO f p (upF f l 10 p)) else a)
def crF (f : Int → Int) (l p : Int) : Int := cnt (fun q => decide ((f q = 1 ∧ max 0 (l - 1) ≤ f (160 + q)) ∧ farO f p q < 2 * 2 ^ l.toNat)) 40 0 0
def croF (f : Int → Int) (l : Int) : Nat → Int → Int → Int
  | 0, _, a => a
  | k + 1, p, a => croF f l k (p + 1) (if f p = 1 ∧ l ≤ f (160 + p) then max a (crF f l p) else a)
theorem upF_in {f : Int → Int} (ht : tree f) {l : Int} (hl : l ≤ 10) : ∀ (m : Nat) (p : Int), 0 ≤ p → p < 40 → f p = 1 → 10 ≤ f (160 + p) + m → (0 ≤ upF f l m p ∧ upF f l m p < 40) ∧ f (upF f l m p) = 1 := by
  intro m
  induction m with
  | zero => intro p h0 h1 h2 _; exact ⟨⟨h0, h1⟩, h2⟩
  | succ m ih =>
    intro p h0 h1 h2 hm
    unfold upF
    have t1 := ht p h0 h1 h2
    split
    · have t2 := t1.2.2 (by omega)
      exact ih _ t2.1.1 t2.1.2 t2.2.1 (by omega)
    · exact ⟨⟨h0, h1⟩, h2⟩
section C4r
variable {n : Nat} {σ : sxS} {K : Option sxV → sxT → sxS → Prop}
theorem x216o {p q : Int} (hw : wfc (σ 150)) (h0 : 0 ≤ p) (h1 : p < 40) (g0 : 0 ≤ q) (g1 : q < 40) : Rn 216 0 [some (vR 149), some (vI p), some (vI q)] [] (T0 n) σ K ↔ K (some (vI (farO (σ 150) p q))) (T0 n) σ := x216 hw h0 h1 g0 g1
theorem x221i (hw : wfc (σ 150)) {l p : Int} (h0 : 0 ≤ p) (h1 : p < 40) : ∀ (k : Nat) (q a : Int), q + k = 40 → 0 ≤ q → Rn 221 71 [some (vR 149), some (vI l), some (vI (lfI (σ 150) l p k q a)), some (vI p), some (vI 40)] [] (T0 n) σ K → Rn 221 15 [some (vR 149), some (vI l), some (vI a), some (vI p), some (vI q)] [] (T0 n) σ K := by
  intro k
  induction k with
  | zero =>
    intro q a hq q0 hK
    obtain rfl : q = 40 := by omega
    rw [s221_15]
    simp only [s221_17, s221_19, s221_22, s221_23, s221_24, s221_25, s221_28, s221_31, s221_32, s221_34, s221_35, s221_38, s221_41, s221_42, s221_43, s221_46, s221_47, s221_48, s221_50, s221_53, s221_54, s221_57, s221_58, s221_59, s221_61, s221_64, s221_65, s221_68, sx_push, tf, List.length_cons, List.length_nil, Option.some.injEq, exists_eq_left', Nat.reduceAdd, Nat.reduceLeDiff, true_and, and_true, true_or, or_true, Int.zero_add, Nat.zero_le, eq_self, ne_eq, not_true_eq_false, not_false_eq_true, false_implies, true_implies, implies_true, b2i_0, b2i_1, b2i_01, up_sc, sc_at, sc_sc, ite_true, ite_false, if_true, if_false, Nat.reduceEqDiff, reduceIte]
    repeat' (first | intro _ | refine And.intro ?_ ?_)
    all_goals first | exact hK | omega
  | succ k ih =>
    intro q a hq q0 hK
    have q1 : q < 40 := by omega
    unfold lfI at hK
    rw [s221_15]
    simp only [s221_17, s221_19, s221_22, s221_23, s221_24, s221_25, s221_28, s221_31, s221_32, s221_34, s221_35, s221_38, s221_41, s221_42, s221_43, s221_46, s221_47, s221_48, s221_50, s221_53, s221_54, s221_57, s221_58, s221_59, s221_61, s221_64, s221_65, s221_68, sx_push, tf, List.length_cons, List.length_nil, Option.some.injEq, exists_eq_left', Nat.reduceAdd, Nat.reduceLeDiff, true_and, and_true, true_or, or_true, Int.zero_add, Nat.zero_le, eq_self, ne_eq, not_true_eq_false, not_false_eq_true, false_implies, true_implies, implies_true, b2i_0, b2i_1, b2i_01, up_sc, sc_at, sc_sc, ite_true, ite_false, if_true, if_false, Nat.reduceEqDiff, reduceIte, x194 h0 h1, x194 q0 q1, x216o hw h0 h1 q0 q1]
    repeat' (first | intro _ | refine And.intro ?_ ?_)
    all_goals first | omega | (split at hK <;> first | omega | exact ih _ _ (by omega) (by omega) hK)
theorem x221l (hw : wfc (σ 150)) {l : Int} : ∀ (k : Nat) (p a : Int) (u : Option sxV), p + k = 40 → 0 ≤ p → K (some (vI (lfO (σ 150) l k p a))) (T0 n) σ → Rn 221 4 [some (vR 149), some (vI l), some (vI a), some (vI p), u] [] (T0 n) σ K := by
  intro k
  induction k with
  | zero =>
    intro p a u hp h0 hK
    rw [s221_4]
    simp only [s221_0, s221_1, s221_2, s221_3, s221_5, s221_7, s221_10, s221_11, s221_12, s221_13, s221_17, s221_19, s221_22, s221_23, s221_24, s221_25, s221_28, s221_31, s221_32, s221_34, s221_35, s221_38, s221_41, s221_42, s221_43, s221_46, s221_47, s221_48, s221_50, s221_53, s221_54, s221_57, s221_58, s221_59, s221_61, s221_64, s221_65, s221_68, s221_71, s221_74, s221_77, s221_78, sx_push, tf, List.length_cons, List.length_nil, Option.some.injEq, exists_eq_left', Nat.reduceAdd, Nat.reduceLeDiff, true_and, and_true, true_or, or_true, Int.zero_add, Nat.zero_le, eq_self, ne_eq, not_true_eq_false, not_false_eq_true, false_implies, true_implies, implies_true, b2i_0, b2i_1, b2i_01, up_sc, sc_at, sc_sc, ite_true, ite_false, if_true, if_false, Nat.reduceEqDiff, reduceIte]
    repeat' (first | intro _ | refine And.intro ?_ ?_)
    all_goals first | exact hK | omega
  | succ k ih =>
    intro p a u hp h0 hK
    have h1 : p < 40 := by omega
    unfold lfO at hK
    rw [s221_4]
    simp only [s221_5, s221_7, s221_10, s221_11, s221_12, s221_13, sx_push, tf, List.length_cons, List.length_nil, Option.some.injEq, exists_eq_left', Nat.reduceAdd, Nat.reduceLeDiff, true_and, and_true, true_or, or_true, Int.zero_add, Nat.zero_le, eq_self, ne_eq, not_true_eq_false, not_false_eq_true, false_implies, true_implies, implies_true, b2i_0, b2i_1, b2i_01, up_sc, sc_at, sc_sc, ite_true, ite_false, if_true, if_false, Nat.reduceEqDiff, reduceIte]
    repeat' (first | intro _ | refine And.intro ?_ ?_)
    all_goals first | omega | skip
    refine x221i hw h0 h1 k (p + 1) a (by omega) (by omega) ?_
    simp only [s221_71, s221_74, sx_push, tf, List.length_cons, List.length_nil, Option.some.injEq, exists_eq_left', Nat.reduceAdd, Nat.reduceLeDiff, true_and, and_true, true_or, or_true, Int.zero_add, Nat.zero_le, eq_self, ne_eq, not_true_eq_false, not_false_eq_true, false_implies, true_implies, implies_true, b2i_0, b2i_1, b2i_01, up_sc, sc_at, sc_sc, ite_true, ite_false, if_true, if_false, Nat.reduceEqDiff, reduceIte]
    repeat' (first | intro _ | refine And.intro ?_ ?_)
    all_goals first | omega | exact ih _ _ _ (by omega) (by omega) hK
theorem x221 (hw : wfc (σ 150)) {l : Int} : Rn 221 0 [some (vR 149), some (vI l), none, none, none] [] (T0 n) σ K ↔ K (some (vI (lfO (σ 150) l 40 0 (-1)))) (T0 n) σ := by
  refine Rn_iff fun K hK => ?_
  simp only [s221_0, s221_1, s221_2, s221_3, s221_5, s221_7, s221_10, s221_11, s221_12, s221_13, s221_17, s221_19, s221_22, s221_23, s221_24, s221_25, s221_28, s221_31, s221_32, s221_34, s221_35, s221_38, s221_41, s221_42, s221_43, s221_46, s221_47, s221_48, s221_50, s221_53, s221_54, s221_57, s221_58, s221_59, s221_61, s221_64, s221_65, s221_68, s221_71, s221_74, s221_77, s221_78, sx_push, tf, List.length_cons, List.length_nil, Option.some.injEq, exists_eq_left', Nat.reduceAdd, Nat.reduceLeDiff, true_and, and_true, true_or, or_true, Int.zero_add, Nat.zero_le, eq_self, ne_eq, not_true_eq_false, not_false_eq_true, false_implies, true_implies, implies_true, b2i_0, b2i_1, b2i_01, up_sc, sc_at, sc_sc, ite_true, ite_false, if_true, if_false, Nat.reduceEqDiff, reduceIte]
  exact x221l hw 40 0 (-1) _ (by omega) (by omega) hK
theorem x222l (hw : wfc (σ 150)) (ht : tree (σ 150)) {l : Int} (hl : l ≤ 10) : ∀ (k : Nat) (p a : Int), p + k = 40 → 0 ≤ p → K (some (vI (mfF (σ 150) l k p a))) (T0 n) σ → Rn 222 4 [some (vR 149), some (vI l), some (vI a), some (vI p)] [] (T0 n) σ K := by
  intro k
  induction k with
  | zero =>
    intro p a hp h0 hK
    rw [s222_4]
    simp only [s222_0, s222_1, s222_2, s222_3, s222_5, s222_7, s222_10, s222_11, s222_14, s222_15, s222_16, s222_17, s222_18, s222_19, s222_22, s222_23, s222_24, s222_25, s222_26, s222_27, s222_28, s222_31, s222_34, s222_37, s222_38, s222_41, s222_44, s222_45, sx_push, tf, List.length_cons, List.length_nil, Option.some.injEq, exists_eq_left', Nat.reduceAdd, Nat.reduceLeDiff, true_and, and_true, true_or, or_true, Int.zero_add, Nat.zero_le, eq_self, ne_eq, not_true_eq_false, not_false_eq_true, false_implies, true_implies, implies_true, b2i_0, b2i_1, b2i_01, up_sc, sc_at, sc_sc, ite_true, ite_false, if_true, if_false, Nat.reduceEqDiff, reduceIte]
    repeat' (first | intro _ | refine And.intro ?_ ?_)
    all_goals first | exact hK | omega
  | succ k ih =>
    intro p a hp h0 hK
    have h1 : p < 40 := by omega
    unfold mfF at hK
    rw [s222_4]
    by_cases c : σ 150 p = 1
    · rw [if_pos c] at hK
      have t1 := ht p h0 h1 c
      have up := upF_in ht hl 10 p h0 h1 c (by omega)
      simp only [s222_0, s222_1, s222_2, s222_3, s222_5, s222_7, s222_10, s222_11, s222_14, s222_15, s222_16, s222_17, s222_18, s222_19, s222_22, s222_23, s222_24, s222_25, s222_26, s222_27, s222_28, s222_31, s222_34, s222_37, s222_38, s222_41, s222_44, s222_45, sx_push, tf, List.length_cons, List.length_nil, Option.some.injEq, exists_eq_left', Nat.reduceAdd, Nat.reduceLeDiff, true_and, and_true, true_or, or_true, Int.zero_add, Nat.zero_le, eq_self, ne_eq, not_true_eq_false, not_false_eq_true, false_implies, true_implies, implies_true, b2i_0, b2i_1, b2i_01, up_sc, sc_at, sc_sc, ite_true, ite_false, if_true, if_false, Nat.reduceEqDiff, reduceIte, x219 ht hl ⟨h0, h1⟩ c, x216o hw h0 h1 up.1.1 up.1.2, x199]
      repeat' (first | intro _ | refine And.intro ?_ ?_)
      all_goals first | omega | exact ih _ _ (by omega) (by omega) hK
    · rw [if_neg c] at hK
      simp only [s222_0, s222_1, s222_2, s222_3, s222_5, s222_7, s222_10, s222_11, s222_14, s222_15, s222_16, s222_17, s222_18, s222_19, s222_22, s222_23, s222_24, s222_25, s222_26, s222_27, s222_28, s222_31, s222_34, s222_37, s222_38, s222_41, s222_44, s222_45, sx_push, tf, List.length_cons, List.length_nil, Option.some.injEq, exists_eq_left', Nat.reduceAdd, Nat.reduceLeDiff, true_and, and_true, true_or, or_true, Int.zero_add, Nat.zero_le, eq_self, ne_eq, not_true_eq_false, not_false_eq_true, false_implies, true_implies, implies_true, b2i_0, b2i_1, b2i_01, up_sc, sc_at, sc_sc, ite_true, ite_false, if_true, if_false, Nat.reduceEqDiff, reduceIte]
      repeat' (first | intro _ | refine And.intro ?_ ?_)
      all_goals first | omega | exact ih _ _ (by omega) (by omega) hK
theorem x222 (hw : wfc (σ 150)) (ht : tree (σ 150)) {l : Int} (hl : l ≤ 10) : Rn 222 0 [some (vR 149), some (vI l), none, none] [] (T0 n) σ K ↔ K (some (vI (mfF (σ 150) l 40 0 (-1)))) (T0 n) σ := by
  refine Rn_iff fun K hK => ?_
  simp only [s222_0, s222_1, s222_2, s222_3, s222_5, s222_7, s222_10, s222_11, s222_14, s222_15, s222_16, s222_17, s222_18, s222_19, s222_22, s222_23, s222_24, s222_25, s222_26, s222_27, s222_28, s222_31, s222_34, s222_37, s222_38, s222_41, s222_44, s222_45, sx_push, tf, List.length_cons, List.length_nil, Option.some.injEq, exists_eq_left', Nat.reduceAdd, Nat.reduceLeDiff, true_and, and_true, true_or, or_true, Int.zero_add, Nat.zero_le, eq_self, ne_eq, not_true_eq_false, not_false_eq_true, false_implies, true_implies, implies_true, b2i_0, b2i_1, b2i_01, up_sc, sc_at, sc_sc, ite_true, ite_false, if_true, if_false, Nat.reduceEqDiff, reduceIte]
  exact x222l hw ht hl 40 0 (-1) (by omega) (by omega) hK
theorem x223i (hw : wfc (σ 150)) {l p m : Int} (hl0 : 0 ≤ l) (hl : l ≤ 10) (h0 : 0 ≤ p) (h1 : p < 40) : ∀ (k : Nat) (q a : Int), q + k = 40 → 0 ≤ q → 0 ≤ a → a ≤ q → Rn 223 80 [some (vR 149), some (vI l), some (vI m), some (vI p), some (vI (cnt (fun q => decide ((σ 150 q = 1 ∧ max 0 (l - 1) ≤ σ 150 (160 + q)) ∧ farO (σ 150) p q < 2 * 2 ^ l.toNat)) k q a)), some (vI 40)] [] (T0 n) σ K → Rn 223 28 [some (vR 149), some (vI l), some (vI m), some (vI p), some (vI a), some (vI q)] [] (T0 n) σ K := by
  intro k
  induction k with
  | zero =>
    intro q a hq q0 ha ha' hK
    obtain rfl : q = 40 := by omega
    rw [s223_28]
    simp only [s223_30, s223_32, s223_35, s223_37, s223_38, s223_40, s223_41, s223_42, s223_43, s223_44, s223_47, s223_50, s223_53, s223_54, s223_55, s223_57, s223_60, s223_61, s223_62, s223_63, s223_66, s223_67, s223_70, s223_71, s223_72, s223_74, s223_77, sx_push, tf, List.length_cons, List.length_nil, Option.some.injEq, exists_eq_left', Nat.reduceAdd, Nat.reduceLeDiff, true_and, and_true, true_or, or_true, Int.zero_add, Nat.zero_le, eq_self, ne_eq, not_true_eq_false, not_false_eq_true, false_implies, true_implies, implies_true, b2i_0, b2i_1, b2i_01, up_sc, sc_at, sc_sc, ite_true, ite_false, if_true, if_false, Nat.reduceEqDiff, reduceIte]
    repeat' (first | intro _ | refine And.intro ?_ ?_)
    all_goals first | exact hK | omega
  | succ k ih =>
    intro q a hq q0 ha ha' hK
    have q1 : q < 40 := by omega
    have pw := pw_in hl0 hl
    unfold cnt at hK
    simp only [decide_eq_true_eq] at hK
    rw [s223_28]
    simp only [s223_30, s223_32, s223_35, s223_37, s223_38, s223_40, s223_41, s223_42, s223_43, s223_44, s223_47, s223_50, s223_53, s223_54, s223_55, s223_57, s223_60, s223_61, s223_62, s223_63, s223_66, s223_67, s223_70, s223_71, s223_72, s223_74, s223_77, sx_push, tf, List.length_cons, List.length_nil, Option.some.injEq, exists_eq_left', Nat.reduceAdd, Nat.reduceLeDiff, true_and, and_true, true_or, or_true, Int.zero_add, Nat.zero_le, eq_self, ne_eq, not_true_eq_false, not_false_eq_true, false_implies, true_implies, implies_true, b2i_0, b2i_1, b2i_01, up_sc, sc_at, sc_sc, ite_true, ite_false, if_true, if_false, Nat.reduceEqDiff, reduceIte, x199, x194 q0 q1, x216o hw h0 h1 q0 q1, Int.add_zero]
    repeat' (first | intro _ | refine And.intro ?_ ?_)
    all_goals first | omega | (split at hK <;> first | omega | exact ih _ _ (by omega) (by omega) (by omega) (by omega) hK)
theorem x223l (hw : wfc (σ 150)) {l : Int} (hl0 : 0 ≤ l) (hl : l ≤ 10) : ∀ (k : Nat) (p a : Int) (u v : Option sxV), p + k = 40 → 0 ≤ p → K (some (vI (croF (σ 150) l k p a))) (T0 n) σ → Rn 223 4 [some (vR 149), some (vI l), some (vI a), some (vI p), u, v] [] (T0 n) σ K := by
  intro k
  induction k with
  | zero =>
    intro p a u v hp h0 hK
    rw [s223_4]
    simp only [s223_0, s223_1, s223_2, s223_3, s223_5, s223_7, s223_10, s223_11, s223_12, s223_13, s223_16, s223_19, s223_22, s223_23, s223_25, s223_26, s223_30, s223_32, s223_35, s223_37, s223_38, s223_40, s223_41, s223_42, s223_43, s223_44, s223_47, s223_50, s223_53, s223_54, s223_55, s223_57, s223_60, s223_61, s223_62, s223_63, s223_66, s223_67, s223_70, s223_71, s223_72, s223_74, s223_77, s223_80, s223_81, s223_83, s223_86, s223_87, s223_90, s223_93, s223_94, sx_push, tf, List.length_cons, List.length_nil, Option.some.injEq, exists_eq_left', Nat.reduceAdd, Nat.reduceLeDiff, true_and, and_true, true_or, or_true, Int.zero_add, Nat.zero_le, eq_self, ne_eq, not_true_eq_false, not_false_eq_true, false_implies, true_implies, implies_true, b2i_0, b2i_1, b2i_01, up_sc, sc_at, sc_sc, ite_true, ite_false, if_true, if_false, Nat.reduceEqDiff, reduceIte]
    repeat' (first | intro _ | refine And.intro ?_ ?_)
    all_goals first | exact hK | omega
  | succ k ih =>
    intro p a u v hp h0 hK
    have h1 : p < 40 := by omega
    unfold croF at hK
    rw [s223_4]
    by_cases c : σ 150 p = 1 ∧ l ≤ σ 150 (160 + p)
    · rw [if_pos c] at hK
      simp only [s223_5, s223_7, s223_10, s223_11, s223_12, s223_13, s223_16, s223_19, s223_22, s223_23, s223_25, s223_26, sx_push, tf, List.length_cons, List.length_nil, Option.some.injEq, exists_eq_left', Nat.reduceAdd, Nat.reduceLeDiff, true_and, and_true, true_or, or_true, Int.zero_add, Nat.zero_le, eq_self, ne_eq, not_true_eq_false, not_false_eq_true, false_implies, true_implies, implies_true, b2i_0, b2i_1, b2i_01, up_sc, sc_at, sc_sc, ite_true, ite_false, if_true, if_false, Nat.reduceEqDiff, reduceIte, x194 h0 h1, c, and_self]
      refine ⟨fun h => by omega, fun h => ?_⟩
      refine x223i hw hl0 hl h0 h1 40 0 0 (by omega) (by omega) (by omega) (by omega) ?_
      simp only [s223_80, s223_81, s223_83, s223_86, s223_87, s223_90, sx_push, tf, List.length_cons, List.length_nil, Option.some.injEq, exists_eq_left', Nat.reduceAdd, Nat.reduceLeDiff, true_and, and_true, true_or, or_true, Int.zero_add, Nat.zero_le, eq_self, ne_eq, not_true_eq_false, not_false_eq_true, false_implies, true_implies, implies_true, b2i_0, b2i_1, b2i_01, up_sc, sc_at, sc_sc, ite_true, ite_false, if_true, if_false, Nat.reduceEqDiff, reduceIte, x199]
      repeat' (first | intro _ | refine And.intro ?_ ?_)
      all_goals first | omega | exact ih _ _ _ _ (by omega) (by omega) hK
    · rw [if_neg c] at hK
      simp only [s223_5, s223_7, s223_10, s223_11, s223_12, s223_13, s223_16, s223_19, s223_87, s223_90, sx_push, tf, List.length_cons, List.length_nil, Option.some.injEq, exists_eq_left', Nat.reduceAdd, Nat.reduceLeDiff, true_and, and_true, true_or, or_true, Int.zero_add, Nat.zero_le, eq_self, ne_eq, not_true_eq_false, not_false_eq_true, false_implies, true_implies, implies_true, b2i_0, b2i_1, b2i_01, up_sc, sc_at, sc_sc, ite_true, ite_false, if_true, if_false, Nat.reduceEqDiff, reduceIte, x194 h0 h1]
      repeat' (first | intro _ | refine And.intro ?_ ?_)
      all_goals first | omega | exact ih _ _ _ _ (by omega) (by omega) hK
theorem x223 (hw : wfc (σ 150)) {l : Int} (hl0 : 0 ≤ l) (hl : l ≤ 10) : Rn 223 0 [some (vR 149), some (vI l), none, none, none, none] [] (T0 n) σ K ↔ K (some (vI (croF (σ 150) l 40 0 (-1)))) (T0 n) σ := by
  refine Rn_iff fun K hK => ?_
  simp only [s223_0, s223_1, s223_2, s223_3, s223_5, s223_7, s223_10, s223_11, s223_12, s223_13, s223_16, s223_19, s223_22, s223_23, s223_25, s223_26, s223_30, s223_32, s223_35, s223_37, s223_38, s223_40, s223_41, s223_42, s223_43, s223_44, s223_47, s223_50, s223_53, s223_54, s223_55, s223_57, s223_60, s223_61, s223_62, s223_63, s223_66, s223_67, s223_70, s223_71, s223_72, s223_74, s223_77, s223_80, s223_81, s223_83, s223_86, s223_87, s223_90, s223_93, s223_94, sx_push, tf, List.length_cons, List.length_nil, Option.some.injEq, exists_eq_left', Nat.reduceAdd, Nat.reduceLeDiff, true_and, and_true, true_or, or_true, Int.zero_add, Nat.zero_le, eq_self, ne_eq, not_true_eq_false, not_false_eq_true, false_implies, true_implies, implies_true, b2i_0, b2i_1, b2i_01, up_sc, sc_at, sc_sc, ite_true, ite_false, if_true, if_false, Nat.reduceEqDiff, reduceIte]
  exact x223l hw hl0 hl 40 0 (-1) _ _ (by omega) (by omega) hK
def looseS (f : Int → Int) (l w : Int) : Int := if 0 ≤ l ∧ l ≤ 10 then (if w = 0 then lfO f l 40 0 (-1) else if w = 1 then mfF f l 40 0 (-1) else if w = 2 then croF f l 40 0 (-1) else -1) else -1
theorem x220 (hw : wfc (σ 150)) (ht : tree (σ 150)) {l w : Int} : Rn 220 0 [some (vR 149), some (vI l), some (vI w)] [] (T0 n) σ K ↔ K (some (vI (looseS (σ 150) l w))) (T0 n) σ := by
  refine Rn_iff fun K hK => ?_
  unfold looseS at hK
  by_cases h : 0 ≤ l ∧ l ≤ 10
  · rw [if_pos h] at hK
    simp only [s220_0, s220_1, s220_2, s220_4, s220_7, s220_10, s220_11, s220_12, s220_13, s220_16, s220_17, s220_18, s220_21, s220_24, s220_25, s220_26, s220_29, s220_30, s220_31, s220_34, s220_37, s220_38, s220_39, s220_42, s220_43, s220_44, s220_47, s220_50, s220_51, sx_push, tf, List.length_cons, List.length_nil, Option.some.injEq, exists_eq_left', Nat.reduceAdd, Nat.reduceLeDiff, true_and, and_true, true_or, or_true, Int.zero_add, Nat.zero_le, eq_self, ne_eq, not_true_eq_false, not_false_eq_true, false_implies, true_implies, implies_true, b2i_0, b2i_1, b2i_01, up_sc, sc_at, sc_sc, ite_true, ite_false, if_true, if_false, Nat.reduceEqDiff, reduceIte, x185, x221 hw, x222 hw ht h.2, x223 hw h.1 h.2]
    generalize lfO (σ 150) l 40 0 (-1) = r0 at *
    generalize mfF (σ 150) l 40 0 (-1) = r1 at *
    generalize croF (σ 150) l 40 0 (-1) = r2 at *
    repeat' (first | intro _ | refine And.intro ?_ ?_)
    all_goals first | omega | (rw [if_pos (by omega)] at hK; exact hK) | (rw [if_neg (by omega), if_pos (by omega)] at hK; exact hK) | (rw [if_neg (by omega), if_neg (by omega), if_pos (by omega)] at hK; exact hK) | (rw [if_neg (by omega), if_neg (by omega), if_neg (by omega)] at hK; exact hK)
  · rw [if_neg h] at hK
    simp only [s220_0, s220_1, s220_2, s220_4, s220_7, s220_10, s220_11, s220_12, s220_13, s220_16, s220_17, s220_18, s220_21, s220_24, s220_25, s220_26, s220_29, s220_30, s220_31, s220_34, s220_37, s220_38, s220_39, s220_42, s220_43, s220_44, s220_47, s220_50, s220_51, sx_push, tf, List.length_cons, List.length_nil, Option.some.injEq, exists_eq_left', Nat.reduceAdd, Nat.reduceLeDiff, true_and, and_true, true_or, or_true, Int.zero_add, Nat.zero_le, eq_self, ne_eq, not_true_eq_false, not_false_eq_true, false_implies, true_implies, implies_true, b2i_0, b2i_1, b2i_01, up_sc, sc_at, sc_sc, ite_true, ite_false, if_true, if_false, Nat.reduceEqDiff, reduceIte, x185]
    repeat' (first | intro _ | refine And.intro ?_ ?_)
    all_goals first | exact hK | omega
theorem x208c {q : Int} : Rn 208 0 [some (vR 149), some (vI q), none, none] [] (T0 n) σ K ↔ K (some (vI (chM (σ 150) q))) (T0 n) σ := x208
theorem bizF_in (f : Int → Int) : ∀ (k : Nat) (p b : Int), p + k = 40 → 0 ≤ p → (b = -1 ∨ (0 ≤ b ∧ b < 40 ∧ f b = 1)) → bizF f k p b = -1 ∨ (0 ≤ bizF f k p b ∧ bizF f k p b < 40 ∧ f (bizF f k p b) = 1) := by
  intro k
  induction k with
  | zero => intro p b _ _ h; exact h
  | succ k ih =>
    intro p b hp h0 hb
    unfold bizF
    refine ih _ _ (by omega) (by omega) ?_
    split
    · rename_i h; exact Or.inr ⟨h0, by omega, h.1⟩
    · exact hb
theorem x224l {w : Int} : ∀ (k : Nat) (p b : Int), p + k = 40 → 0 ≤ p → Rn 224 48 [some (vR 149), some (vI w), some (vI (bizF (σ 150) k p b)), some (vI 40)] [] (T0 n) σ K → Rn 224 4 [some (vR 149), some (vI w), some (vI b), some (vI p)] [] (T0 n) σ K := by
  intro k
  induction k with
  | zero =>
    intro p b hp h0 hK
    obtain rfl : p = 40 := by omega
    rw [s224_4]
    simp only [s224_5, s224_7, s224_10, s224_11, s224_14, s224_15, s224_16, s224_17, s224_18, s224_19, s224_22, s224_23, s224_24, s224_27, s224_28, s224_29, s224_32, s224_33, s224_34, s224_37, s224_40, s224_41, s224_42, s224_45, sx_push, tf, List.length_cons, List.length_nil, Option.some.injEq, exists_eq_left', Nat.reduceAdd, Nat.reduceLeDiff, true_and, and_true, true_or, or_true, Int.zero_add, Nat.zero_le, eq_self, ne_eq, not_true_eq_false, not_false_eq_true, false_implies, true_implies, implies_true, b2i_0, b2i_1, b2i_01, up_sc, sc_at, sc_sc, ite_true, ite_false, if_true, if_false, Nat.reduceEqDiff, reduceIte]
    repeat' (first | intro _ | refine And.intro ?_ ?_)
    all_goals first | exact hK | omega
  | succ k ih =>
    intro p b hp h0 hK
    have h1 : p < 40 := by omega
    unfold bizF at hK
    rw [s224_4]
    simp only [s224_5, s224_7, s224_10, s224_11, s224_14, s224_15, s224_16, s224_17, s224_18, s224_19, s224_22, s224_23, s224_24, s224_27, s224_28, s224_29, s224_32, s224_33, s224_34, s224_37, s224_40, s224_41, s224_42, s224_45, sx_push, tf, List.length_cons, List.length_nil, Option.some.injEq, exists_eq_left', Nat.reduceAdd, Nat.reduceLeDiff, true_and, and_true, true_or, or_true, Int.zero_add, Nat.zero_le, eq_self, ne_eq, not_true_eq_false, not_false_eq_true, false_implies, true_implies, implies_true, b2i_0, b2i_1, b2i_01, up_sc, sc_at, sc_sc, ite_true, ite_false, if_true, if_false, Nat.reduceEqDiff, reduceIte, x208c]
    repeat' (first | intro _ | refine And.intro ?_ ?_)
    all_goals first | omega | (split at hK <;> first | omega | exact ih _ _ (by omega) (by omega) hK)
def mostS (f : Int → Int) (w : Int) : Int := if bizF f 40 0 (-1) ≠ -1 ∧ (0 ≤ w ∧ w ≤ 1) then (if w = 0 then chM f (bizF f 40 0 (-1)) else bizF f 40 0 (-1)) else -1
theorem x224 {w : Int} : Rn 224 0 [some (vR 149), some (vI w), none, none] [] (T0 n) σ K ↔ K (some (vI (mostS (σ 150) w))) (T0 n) σ := by
  refine Rn_iff fun K hK => ?_
  unfold mostS at hK
  simp only [s224_0, s224_1, s224_2, s224_3, sx_push, tf, List.length_cons, List.length_nil, Option.some.injEq, exists_eq_left', Nat.reduceAdd, Nat.reduceLeDiff, true_and, and_true, true_or, or_true, Int.zero_add, Nat.zero_le, eq_self, ne_eq, not_true_eq_false, not_false_eq_true, false_implies, true_implies, implies_true, b2i_0, b2i_1, b2i_01, up_sc, sc_at, sc_sc, ite_true, ite_false, if_true, if_false, Nat.reduceEqDiff, reduceIte]
  refine x224l 40 0 (-1) (by omega) (by omega) ?_
  generalize bizF (σ 150) 40 0 (-1) = b at *
  simp only [s224_48, s224_49, s224_50, s224_53, s224_54, s224_55, s224_56, s224_59, s224_62, s224_63, s224_64, s224_65, s224_68, s224_69, s224_70, s224_73, s224_76, s224_77, sx_push, tf, List.length_cons, List.length_nil, Option.some.injEq, exists_eq_left', Nat.reduceAdd, Nat.reduceLeDiff, true_and, and_true, true_or, or_true, Int.zero_add, Nat.zero_le, eq_self, ne_eq, not_true_eq_false, not_false_eq_true, false_implies, true_implies, implies_true, b2i_0, b2i_1, b2i_01, up_sc, sc_at, sc_sc, ite_true, ite_false, if_true, if_false, Nat.reduceEqDiff, reduceIte, x185, x208c]
  by_cases h : b ≠ -1 ∧ (0 ≤ w ∧ w ≤ 1)
  · rw [if_pos h] at hK
    repeat' (first | intro _ | refine And.intro ?_ ?_)
    all_goals first | omega | (rw [if_pos (by omega)] at hK; exact hK) | (rw [if_neg (by omega)] at hK; exact hK)
  · rw [if_neg h] at hK
    repeat' (first | intro _ | refine And.intro ?_ ?_)
    all_goals first | exact hK | omega
theorem x235i (hw : wfc (σ 150)) {x y z d p : Int} (hx : in8 x) (hy : in8 y) (hz : in8 z) (h0 : 0 ≤ p) (h1 : p < 40) : ∀ (k : Nat) (q a : Int), q + k = 40 → 0 ≤ q → 0 ≤ a → a ≤ q → Rn 235 124 [some (vR 149), some (vI x), some (vI y), some (vI z), some (vI d), some (vI p), some (vI (farT (σ 150) p x y z)), some (vI (cnt (fun q => decide (σ 150 q = 1 ∧ (farT (σ 150) q x y z < farT (σ 150) p x y z ∨ (farT (σ 150) q x y z = farT (σ 150) p x y z ∧ q < p)))) k q a)), some (vI 40)] [] (T0 n) σ K → Rn 235 53 [some (vR 149), some (vI x), some (vI y), some (vI z), some (vI d), some (vI p), some (vI (farT (σ 150) p x y z)), some (vI a), some (vI q)] [] (T0 n) σ K := by
  intro k
  induction k with
  | zero =>
    intro q a hq q0 ha ha' hK
    obtain rfl : q = 40 := by omega
    rw [s235_53]
    simp only [s235_55, s235_57, s235_60, s235_62, s235_63, s235_66, s235_67, s235_69, s235_70, s235_71, s235_72, s235_75, s235_76, s235_78, s235_79, s235_80, s235_81, s235_84, s235_86, s235_89, s235_90, s235_92, s235_93, s235_94, s235_95, s235_98, s235_100, s235_103, s235_105, s235_107, s235_110, s235_111, s235_114, s235_115, s235_116, s235_118, s235_121, sx_push, tf, List.length_cons, List.length_nil, Option.some.injEq, exists_eq_left', Nat.reduceAdd, Nat.reduceLeDiff, true_and, and_true, true_or, or_true, Int.zero_add, Nat.zero_le, eq_self, ne_eq, not_true_eq_false, not_false_eq_true, false_implies, true_implies, implies_true, b2i_0, b2i_1, b2i_01, up_sc, sc_at, sc_sc, ite_true, ite_false, if_true, if_false, Nat.reduceEqDiff, reduceIte]
    repeat' (first | intro _ | refine And.intro ?_ ?_)
    all_goals first | exact hK | omega
  | succ k ih =>
    intro q a hq q0 ha ha' hK
    have q1 : q < 40 := by omega
    unfold cnt at hK
    simp only [decide_eq_true_eq] at hK
    rw [s235_53]
    simp only [s235_55, s235_57, s235_60, s235_62, s235_63, s235_66, s235_67, s235_69, s235_70, s235_71, s235_72, s235_75, s235_76, s235_78, s235_79, s235_80, s235_81, s235_84, s235_86, s235_89, s235_90, s235_92, s235_93, s235_94, s235_95, s235_98, s235_100, s235_103, s235_105, s235_107, s235_110, s235_111, s235_114, s235_115, s235_116, s235_118, s235_121, sx_push, tf, List.length_cons, List.length_nil, Option.some.injEq, exists_eq_left', Nat.reduceAdd, Nat.reduceLeDiff, true_and, and_true, true_or, or_true, Int.zero_add, Nat.zero_le, eq_self, ne_eq, not_true_eq_false, not_false_eq_true, false_implies, true_implies, implies_true, b2i_0, b2i_1, b2i_01, up_sc, sc_at, sc_sc, ite_true, ite_false, if_true, if_false, Nat.reduceEqDiff, reduceIte, x195 hw hx hy hz q0 q1, Int.add_zero]
    repeat' (first | intro _ | refine And.intro ?_ ?_)
    all_goals first | omega | (split at hK <;> first | omega | exact ih _ _ (by omega) (by omega) (by omega) (by omega) hK)
theorem x235l (h01 : th01 (σ 150)) (hw : wfc (σ 150)) {x y z d : Int} (hx : in8 x) (hy : in8 y) (hz : in8 z) : ∀ (k : Nat) (p : Int) (u v w : Option sxV), p + k = 40 → 0 ≤ p → K (some (vI (fnd (fun p => decide (σ 150 p = 1 ∧ aheadF (σ 150) x y z p = d)) k p))) (T0 n) σ → Rn 235 14 [some (vR 149), some (vI x), some (vI y), some (vI z), some (vI d), some (vI p), u, v, w] [] (T0 n) σ K := by
  intro k
  induction k with
  | zero =>
    intro p u v w hp h0 hK
    rw [s235_14]
    simp only [s235_0, s235_1, s235_2, s235_3, s235_6, s235_9, s235_10, s235_11, s235_12, s235_16, s235_18, s235_21, s235_22, s235_25, s235_26, s235_28, s235_29, s235_30, s235_33, s235_36, s235_37, s235_39, s235_40, s235_41, s235_42, s235_45, s235_47, s235_48, s235_50, s235_51, s235_55, s235_57, s235_60, s235_62, s235_63, s235_66, s235_67, s235_69, s235_70, s235_71, s235_72, s235_75, s235_76, s235_78, s235_79, s235_80, s235_81, s235_84, s235_86, s235_89, s235_90, s235_92, s235_93, s235_94, s235_95, s235_98, s235_100, s235_103, s235_105, s235_107, s235_110, s235_111, s235_114, s235_115, s235_116, s235_118, s235_121, s235_124, s235_126, s235_128, s235_131, s235_133, s235_134, s235_137, s235_140, s235_141, sx_push, tf, List.length_cons, List.length_nil, Option.some.injEq, exists_eq_left', Nat.reduceAdd, Nat.reduceLeDiff, true_and, and_true, true_or, or_true, Int.zero_add, Nat.zero_le, eq_self, ne_eq, not_true_eq_false, not_false_eq_true, false_implies, true_implies, implies_true, b2i_0, b2i_1, b2i_01, up_sc, sc_at, sc_sc, ite_true, ite_false, if_true, if_false, Nat.reduceEqDiff, reduceIte]
    repeat' (first | intro _ | refine And.intro ?_ ?_)
    all_goals first | exact hK | omega
  | succ k ih =>
    intro p u v w hp h0 hK
    have h1 : p < 40 := by omega
    unfold fnd at hK
    simp only [decide_eq_true_eq] at hK
    rw [s235_14]
    rcases h01 p h0 h1 with c | c
    · rw [if_neg (by omega)] at hK
      simp only [s235_16, s235_18, s235_21, s235_22, s235_25, s235_26, s235_28, s235_29, s235_30, s235_33, s235_134, s235_137, sx_push, tf, List.length_cons, List.length_nil, Option.some.injEq, exists_eq_left', Nat.reduceAdd, Nat.reduceLeDiff, true_and, and_true, true_or, or_true, Int.zero_add, Nat.zero_le, eq_self, ne_eq, not_true_eq_false, not_false_eq_true, false_implies, true_implies, implies_true, b2i_0, b2i_1, b2i_01, up_sc, sc_at, sc_sc, ite_true, ite_false, if_true, if_false, Nat.reduceEqDiff, reduceIte, c]
      repeat' (first | intro _ | refine And.intro ?_ ?_)
      all_goals first | omega | exact ih _ _ _ _ (by omega) (by omega) hK
    · simp only [s235_16, s235_18, s235_21, s235_22, s235_25, s235_26, s235_28, s235_29, s235_30, s235_33, s235_36, s235_37, s235_39, s235_40, s235_41, s235_42, s235_45, s235_47, s235_48, s235_50, s235_51, sx_push, tf, List.length_cons, List.length_nil, Option.some.injEq, exists_eq_left', Nat.reduceAdd, Nat.reduceLeDiff, true_and, and_true, true_or, or_true, Int.zero_add, Nat.zero_le, eq_self, ne_eq, not_true_eq_false, not_false_eq_true, false_implies, true_implies, implies_true, b2i_0, b2i_1, b2i_01, up_sc, sc_at, sc_sc, ite_true, ite_false, if_true, if_false, Nat.reduceEqDiff, reduceIte, c, x195 hw hx hy hz h0 h1]
      repeat' (first | intro _ | refine And.intro ?_ ?_)
      all_goals first | omega | skip
      refine x235i hw hx hy hz h0 h1 40 0 0 (by omega) (by omega) (by omega) (by omega) ?_
      simp only [s235_124, s235_126, s235_128, s235_131, s235_133, s235_134, s235_137, sx_push, tf, List.length_cons, List.length_nil, Option.some.injEq, exists_eq_left', Nat.reduceAdd, Nat.reduceLeDiff, true_and, and_true, true_or, or_true, Int.zero_add, Nat.zero_le, eq_self, ne_eq, not_true_eq_false, not_false_eq_true, false_implies, true_implies, implies_true, b2i_0, b2i_1, b2i_01, up_sc, sc_at, sc_sc, ite_true, ite_false, if_true, if_false, Nat.reduceEqDiff, reduceIte]
      repeat' (first | intro _ | refine And.intro ?_ ?_)
      all_goals first | omega | (split at hK <;> first | exact hK | (exfalso; rename_i z1 z2; first | exact z2 ⟨c, z1⟩ | exact z1 z2.2) | omega | exact ih _ _ _ _ (by omega) (by omega) hK)
theorem x235 (h01 : th01 (σ 150)) (hw : wfc (σ 150)) {x y z d : Int} : Rn 235 0 [some (vR 149), some (vI x), some (vI y), some (vI z), some (vI d), none, none, none, none] [] (T0 n) σ K ↔ K (some (vI (if (0 ≤ x ∧ x ≤ 255) ∧ (0 ≤ y ∧ y ≤ 255) ∧ 0 ≤ z ∧ z ≤ 255 then fnd (fun p => decide (σ 150 p = 1 ∧ aheadF (σ 150) x y z p = d)) 40 0 else -1))) (T0 n) σ := by
  refine Rn_iff fun K hK => ?_
  by_cases h : (0 ≤ x ∧ x ≤ 255) ∧ (0 ≤ y ∧ y ≤ 255) ∧ 0 ≤ z ∧ z ≤ 255
  · rw [if_pos h] at hK
    simp only [s235_0, s235_1, s235_2, s235_3, s235_6, s235_9, s235_10, s235_11, s235_12, sx_push, tf, List.length_cons, List.length_nil, Option.some.injEq, exists_eq_left', Nat.reduceAdd, Nat.reduceLeDiff, true_and, and_true, true_or, or_true, Int.zero_add, Nat.zero_le, eq_self, ne_eq, not_true_eq_false, not_false_eq_true, false_implies, true_implies, implies_true, b2i_0, b2i_1, b2i_01, up_sc, sc_at, sc_sc, ite_true, ite_false, if_true, if_false, Nat.reduceEqDiff, reduceIte, x226]
    repeat' (first | intro _ | refine And.intro ?_ ?_)
    all_goals first | omega | exact x235l h01 hw h.1 h.2.1 h.2.2 40 0 _ _ _ (by omega) (by omega) hK
  · rw [if_neg h] at hK
    simp only [s235_0, s235_1, s235_2, s235_3, s235_6, s235_9, s235_10, s235_11, s235_12, sx_push, tf, List.length_cons, List.length_nil, Option.some.injEq, exists_eq_left', Nat.reduceAdd, Nat.reduceLeDiff, true_and, and_true, true_or, or_true, Int.zero_add, Nat.zero_le, eq_self, ne_eq, not_true_eq_false, not_false_eq_true, false_implies, true_implies, implies_true, b2i_0, b2i_1, b2i_01, up_sc, sc_at, sc_sc, ite_true, ite_false, if_true, if_false, Nat.reduceEqDiff, reduceIte, x226]
    repeat' (first | intro _ | refine And.intro ?_ ?_)
    all_goals first | exact hK | omega
end C4r
