/-! what was seen: fits, tells; the reference -/
def farA (f : Int → Int) (m p q : Int) : Int := farF m (f (40 + p)) (f (80 + p)) (f (120 + p)) (f (40 + q)) (f (80 + q)) (f (120 + q))
theorem farA_in {f : Int → Int} (hw : wfc f) {m p q : Int} (p0 : 0 ≤ p) (p1 : p < 40) (q0 : 0 ≤ q) (q1 : q < 40) : 0 ≤ farA f m p q ∧ farA f m p q ≤ 765 := farF_in (hw p p0 p1).1 (hw p p0 p1).2.1 (hw p p0 p1).2.2 (hw q q0 q1).1 (hw q q0 q1).2.1 (hw q q0 q1).2.2
def fitJ (f s1 s2 s3 : Int → Int) (m : Int) : Nat → Int → Bool
  | 0, _ => true
  | r + 1, k => if (((0 ≤ s1 k ∧ s1 k < 40) ∧ f (s1 k) = 1) ∧ ((0 ≤ s2 k ∧ s2 k < 40) ∧ f (s2 k) = 1)) ∧ farA f m (s1 k) (s2 k) ≠ s3 k then false else fitJ f s1 s2 s3 m r (k + 1)
theorem fitJ_cg {f s1 s2 s3 t1 t2 t3 : Int → Int} {m : Int} : ∀ (r : Nat) (k : Int), (∀ j, k ≤ j → j < k + r → s1 j = t1 j ∧ s2 j = t2 j ∧ s3 j = t3 j) → fitJ f s1 s2 s3 m r k = fitJ f t1 t2 t3 m r k := by
  intro r
  induction r with
  | zero => intro k _; rfl
  | succ r ih =>
    intro k h
    unfold fitJ
    have z := h k (by omega) (by omega)
    rw [z.1, z.2.1, z.2.2, ih (k + 1) (fun j x y => h j (by omega) (by omega))]
def lbT (d : Int → Int) (ft : Int → Bool) : Int := mxA (fun m => cnt (fun o => ft m && ft o && decide (d m = d o)) 3 0 0) 3 0 0
theorem lb_in (d : Int → Int) (ft : Int → Bool) : 0 ≤ lbT d ft ∧ lbT d ft ≤ 3 := by
  have h := fun m => cnt_in (fun o => ft m && ft o && decide (d m = d o)) 3 0 0
  have h0 := h 0
  have h1 := h (0 + 1)
  have h2 := h (0 + 1 + 1)
  unfold lbT
  simp only [mxA]
  omega
theorem farF_s {m x y z : Int} (hx : in8 x) (hy : in8 y) (hz : in8 z) : farF m x y z x y z = 0 := by
  have xs : ∀ a : Int, in8 a → sx_xor a a = 0 := fun a ha => by
    unfold in8 at ha
    obtain ⟨b, rfl⟩ := Int.eq_ofNat_of_zero_le ha.1
    rw [sx_xorN (by omega) (by omega), Nat.xor_self]; rfl
  unfold farF
  rw [xs x hx, xs y hy, xs z hz]
  have b0 : bitsF 0 = 0 := by decide
  have a0 : ∀ v : Int, absF (v - v) = 0 := fun v => by unfold absF; rw [if_neg (by omega)]; omega
  rw [b0, a0, a0, a0]
  split
  · rfl
  · split <;> rfl
theorem lb_0 {d : Int → Int} {ft : Int → Bool} (hd : ∀ m, d m = 0) : lbT d ft = 0 ↔ cnt ft 3 0 0 = 0 := by
  unfold lbT
  simp only [hd, decide_true, Bool.and_true]
  show max (max (max 0 (cnt (fun o => ft 0 && ft o) 3 0 0)) (cnt (fun o => ft (0 + 1) && ft o) 3 0 0)) (cnt (fun o => ft (0 + 1 + 1) && ft o) 3 0 0) = 0 ↔ _
  rw [show cnt ft 3 0 0 = cnt ft 0 (0 + 1 + 1 + 1) (if ft (0 + 1 + 1) = true then (if ft (0 + 1) = true then (if ft 0 = true then (0 : Int) + 1 else 0) + 1 else (if ft 0 = true then (0 : Int) + 1 else 0)) + 1 else (if ft (0 + 1) = true then (if ft 0 = true then (0 : Int) + 1 else 0) + 1 else (if ft 0 = true then (0 : Int) + 1 else 0))) from rfl]
  have e : ∀ b : Bool, cnt (fun o => b && ft o) 3 0 0 = cnt (fun o => b && ft o) 0 (0 + 1 + 1 + 1) (if (b && ft (0 + 1 + 1)) = true then (if (b && ft (0 + 1)) = true then (if (b && ft 0) = true then (0 : Int) + 1 else 0) + 1 else (if (b && ft 0) = true then (0 : Int) + 1 else 0)) + 1 else (if (b && ft (0 + 1)) = true then (if (b && ft 0) = true then (0 : Int) + 1 else 0) + 1 else (if (b && ft 0) = true then (0 : Int) + 1 else 0))) := fun b => rfl
  rw [e, e, e]
  unfold cnt
  generalize ft 0 = x
  generalize ft (0 + 1) = y
  generalize ft (0 + 1 + 1) = z
  cases x <;> cases y <;> cases z <;> decide
section W1
variable {n : Nat} {c : Int} {σ : sxS} {K : Option sxV → sxT → sxS → Prop} {f : Int → Int} {ft : Int → Bool}
theorem x264 (hw : wfc (σ 150)) {m p q : Int} (p0 : 0 ≤ p) (p1 : p < 40) (q0 : 0 ≤ q) (q1 : q < 40) : Rn 264 0 [some (vR 149), some (vI m), some (vI p), some (vI q)] [] (T0 n) σ K ↔ K (some (vI (farA (σ 150) m p q))) (T0 n) σ := by
  refine Rn_iff fun K hK => ?_
  unfold farA at hK
  obtain ⟨w1, w2, w3⟩ := hw p p0 p1
  obtain ⟨v1, v2, v3⟩ := hw q q0 q1
  simp only [s264_0, s264_1, s264_2, s264_5, s264_7, s264_8, s264_9, s264_10, s264_11, s264_14, s264_16, s264_17, s264_18, s264_19, s264_20, s264_23, s264_25, s264_26, s264_27, s264_28, s264_29, s264_32, s264_34, s264_35, s264_36, s264_37, s264_38, s264_41, s264_43, s264_44, s264_45, s264_46, s264_47, s264_50, s264_52, s264_53, s264_54, s264_55, s264_58, sx_push, tf, List.length_cons, List.length_nil, Option.some.injEq, exists_eq_left', Nat.reduceAdd, Nat.reduceLeDiff, true_and, and_true, true_or, or_true, Int.zero_add, Nat.zero_le, eq_self, ne_eq, not_true_eq_false, not_false_eq_true, false_implies, true_implies, implies_true, b2i_0, b2i_1, b2i_01, up_sc, sc_at, sc_sc, ite_true, ite_false, if_true, if_false, Nat.reduceEqDiff, reduceIte, x196 w1 w2 w3 v1 v2 v3]
  repeat' (first | intro _ | refine And.intro ?_ ?_)
  all_goals first | exact hK | omega
theorem x263l (hw : wfc (σ 150)) {m : Int} (hr : 0 ≤ σ 149 36 ∧ σ 149 36 ≤ 12) : ∀ (r : Nat) (k : Int), k + r = σ 149 36 → 0 ≤ k → K (some (vI (b2i (fitJ (σ 150) (σ 166) (σ 167) (σ 168) m r k = true)))) (T0 n) σ → Rn 263 2 [some (vR 149), some (vI m), some (vI k)] [] (T0 n) σ K := by
  intro r
  induction r with
  | zero =>
    intro k hk k0 hK
    unfold fitJ at hK
    rw [b2i_t rfl] at hK
    rw [s263_2]
    simp only [s263_3, s263_4, s263_7, s263_70, s263_71, sx_push, tf, List.length_cons, List.length_nil, Option.some.injEq, exists_eq_left', Nat.reduceAdd, Nat.reduceLeDiff, true_and, and_true, true_or, or_true, Int.zero_add, Nat.zero_le, eq_self, ne_eq, not_true_eq_false, not_false_eq_true, false_implies, true_implies, implies_true, b2i_0, b2i_1, b2i_01, up_sc, sc_at, sc_sc, ite_true, ite_false, if_true, if_false, Nat.reduceEqDiff, reduceIte]
    repeat' (first | intro _ | refine And.intro ?_ ?_)
    all_goals first | omega | exact hK
  | succ r ih =>
    intro k hk k0 hK
    rw [s263_2]
    unfold fitJ at hK
    by_cases e : ((0 ≤ σ 166 k ∧ σ 166 k < 40) ∧ σ 150 (σ 166 k) = 1) ∧ ((0 ≤ σ 167 k ∧ σ 167 k < 40) ∧ σ 150 (σ 167 k) = 1)
    · simp only [s263_3, s263_4, s263_7, s263_10, s263_11, s263_12, s263_15, s263_16, s263_17, s263_20, s263_23, s263_24, s263_25, s263_28, s263_29, s263_30, s263_33, s263_36, s263_37, s263_38, s263_39, s263_42, s263_43, s263_44, s263_45, s263_48, s263_49, s263_50, s263_53, s263_54, s263_57, s263_58, s263_59, s263_62, s263_63, s263_64, s263_67, sx_push, tf, List.length_cons, List.length_nil, Option.some.injEq, exists_eq_left', Nat.reduceAdd, Nat.reduceLeDiff, true_and, and_true, true_or, or_true, Int.zero_add, Nat.zero_le, eq_self, ne_eq, not_true_eq_false, not_false_eq_true, false_implies, true_implies, implies_true, b2i_0, b2i_1, b2i_01, up_sc, sc_at, sc_sc, ite_true, ite_false, if_true, if_false, Nat.reduceEqDiff, reduceIte, x205, x264 hw e.1.1.1 e.1.1.2 e.2.1.1 e.2.1.2]
      by_cases e2 : farA (σ 150) m (σ 166 k) (σ 167 k) = σ 168 k
      · rw [if_neg (fun z => z.2 e2)] at hK
        repeat' (first | intro _ | refine And.intro ?_ ?_)
        all_goals first | omega | exact ih _ (by omega) (by omega) hK
      · rw [if_pos ⟨e, e2⟩, b2i_f (by decide)] at hK
        repeat' (first | intro _ | refine And.intro ?_ ?_)
        all_goals first | omega | exact hK
    · rw [if_neg (fun z => e z.1)] at hK
      simp only [s263_3, s263_4, s263_7, s263_10, s263_11, s263_12, s263_15, s263_16, s263_17, s263_20, s263_23, s263_24, s263_25, s263_28, s263_29, s263_30, s263_33, s263_64, s263_67, sx_push, tf, List.length_cons, List.length_nil, Option.some.injEq, exists_eq_left', Nat.reduceAdd, Nat.reduceLeDiff, true_and, and_true, true_or, or_true, Int.zero_add, Nat.zero_le, eq_self, ne_eq, not_true_eq_false, not_false_eq_true, false_implies, true_implies, implies_true, b2i_0, b2i_1, b2i_01, up_sc, sc_at, sc_sc, ite_true, ite_false, if_true, if_false, Nat.reduceEqDiff, reduceIte, x205]
      repeat' (first | intro _ | refine And.intro ?_ ?_)
      all_goals first | omega | exact ih _ (by omega) (by omega) hK
def ftR (σ : sxS) (m : Int) : Bool := fitJ (σ 150) (σ 166) (σ 167) (σ 168) m (σ 149 36).toNat 0
theorem x263 (hw : wfc (σ 150)) {m : Int} (hr : 0 ≤ σ 149 36 ∧ σ 149 36 ≤ 12) : Rn 263 0 [some (vR 149), some (vI m), none] [] (T0 n) σ K ↔ K (some (vI (b2i (ftR σ m = true)))) (T0 n) σ := by
  refine Rn_iff fun K hK => ?_
  simp only [s263_0, s263_1, s263_3, s263_4, s263_7, s263_10, s263_11, s263_12, s263_15, s263_16, s263_17, s263_20, s263_23, s263_24, s263_25, s263_28, s263_29, s263_30, s263_33, s263_36, s263_37, s263_38, s263_39, s263_42, s263_43, s263_44, s263_45, s263_48, s263_49, s263_50, s263_53, s263_54, s263_57, s263_58, s263_59, s263_62, s263_63, s263_64, s263_67, s263_70, s263_71, sx_push, tf, List.length_cons, List.length_nil, Option.some.injEq, exists_eq_left', Nat.reduceAdd, Nat.reduceLeDiff, true_and, and_true, true_or, or_true, Int.zero_add, Nat.zero_le, eq_self, ne_eq, not_true_eq_false, not_false_eq_true, false_implies, true_implies, implies_true, b2i_0, b2i_1, b2i_01, up_sc, sc_at, sc_sc, ite_true, ite_false, if_true, if_false, Nat.reduceEqDiff, reduceIte]
  exact x263l hw hr _ 0 (by omega) (by omega) hK
theorem x262l (hw : wfc (σ 150)) (hr : 0 ≤ σ 149 36 ∧ σ 149 36 ≤ 12) {kk : Int} : ∀ (k : Nat) (m a : Int), m + k = 3 → 0 ≤ m → 0 ≤ a → a ≤ m → K (some (vI (kth (ftR σ) kk k m a))) (T0 n) σ → Rn 262 18 [some (vR 149), some (vI kk), some (vI a), some (vI m)] [] (T0 n) σ K := by
  intro k
  induction k with
  | zero =>
    intro m a hm m0 a0 a1 hK
    unfold kth at hK
    rw [s262_18]
    simp only [s262_19, s262_20, s262_50, s262_51, s262_52, s262_55, s262_56, s262_59, s262_60, sx_push, tf, List.length_cons, List.length_nil, Option.some.injEq, exists_eq_left', Nat.reduceAdd, Nat.reduceLeDiff, true_and, and_true, true_or, or_true, Int.zero_add, Nat.zero_le, eq_self, ne_eq, not_true_eq_false, not_false_eq_true, false_implies, true_implies, implies_true, b2i_0, b2i_1, b2i_01, up_sc, sc_at, sc_sc, ite_true, ite_false, if_true, if_false, Nat.reduceEqDiff, reduceIte]
    repeat' (first | intro _ | refine And.intro ?_ ?_)
    all_goals first | omega | (rw [if_pos (by omega)] at hK; exact hK) | (rw [if_neg (by omega)] at hK; exact hK)
  | succ k ih =>
    intro m a hm m0 a0 a1 hK
    rw [s262_18]
    unfold kth at hK
    have x263' := fun K => x263 (n := n) (σ := σ) (K := K) hw (m := m) hr
    by_cases e : ftR σ m = true
    · rw [if_pos e] at hK
      rw [b2i_t e] at x263'
      simp only [s262_19, s262_20, s262_23, s262_24, s262_25, s262_28, s262_31, s262_34, s262_35, s262_36, s262_39, s262_40, s262_41, s262_44, s262_47, Int.reduceToNat, Int.reducePow, Nat.reducePow, Int.reduceLE, Int.reduceLT, Int.reduceNeg, Int.reduceEq, Int.reduceNe, Int.reduceAdd, Int.reduceSub, Int.reduceMul, and_self, sx_push, tf, List.length_cons, List.length_nil, Option.some.injEq, exists_eq_left', Nat.reduceAdd, Nat.reduceLeDiff, true_and, and_true, true_or, or_true, Int.zero_add, Nat.zero_le, eq_self, ne_eq, not_true_eq_false, not_false_eq_true, false_implies, true_implies, implies_true, b2i_0, b2i_1, b2i_01, up_sc, sc_at, sc_sc, ite_true, ite_false, if_true, if_false, Nat.reduceEqDiff, reduceIte, x263']
      repeat' (first | intro _ | refine And.intro ?_ ?_)
      all_goals first | omega | contradiction | (split at hK <;> first | exact hK | omega | exact ih _ _ (by omega) (by omega) (by omega) (by omega) hK)
    · rw [if_neg e] at hK
      rw [b2i_f e] at x263'
      simp only [s262_19, s262_20, s262_23, s262_24, s262_25, s262_28, s262_31, s262_34, s262_35, s262_36, s262_39, s262_40, s262_41, s262_44, s262_47, Int.reduceToNat, Int.reducePow, Nat.reducePow, Int.reduceLE, Int.reduceLT, Int.reduceNeg, Int.reduceEq, Int.reduceNe, Int.reduceAdd, Int.reduceSub, Int.reduceMul, and_self, sx_push, tf, List.length_cons, List.length_nil, Option.some.injEq, exists_eq_left', Nat.reduceAdd, Nat.reduceLeDiff, true_and, and_true, true_or, or_true, Int.zero_add, Nat.zero_le, eq_self, ne_eq, not_true_eq_false, not_false_eq_true, false_implies, true_implies, implies_true, b2i_0, b2i_1, b2i_01, up_sc, sc_at, sc_sc, ite_true, ite_false, if_true, if_false, Nat.reduceEqDiff, reduceIte, x263']
      repeat' (first | intro _ | refine And.intro ?_ ?_)
      all_goals first | omega | contradiction | exact ih _ _ (by omega) (by omega) (by omega) (by omega) hK
theorem x262 (hw : wfc (σ 150)) (hr : 0 ≤ σ 149 36 ∧ σ 149 36 ≤ 12) {kk : Int} : Rn 262 0 [some (vR 149), some (vI kk), none, none] [] (T0 n) σ K ↔ K (some (vI (if σ 149 6 ≠ 0 ∧ -1 ≤ kk then kth (ftR σ) kk 3 0 0 else -1))) (T0 n) σ := by
  refine Rn_iff fun K hK => ?_
  by_cases e : σ 149 6 ≠ 0 ∧ -1 ≤ kk
  · rw [if_pos e] at hK
    have main : Rn 262 18 [some (vR 149), some (vI kk), some (vI 0), some (vI 0)] [] (T0 n) σ K := x262l hw hr 3 0 0 (by omega) (by omega) (by omega) (by omega) hK
    simp only [s262_0, s262_1, s262_4, s262_7, s262_8, s262_9, s262_12, s262_13, s262_14, s262_15, s262_16, s262_17, sx_push, tf, List.length_cons, List.length_nil, Option.some.injEq, exists_eq_left', Nat.reduceAdd, Nat.reduceLeDiff, true_and, and_true, true_or, or_true, Int.zero_add, Nat.zero_le, eq_self, ne_eq, not_true_eq_false, not_false_eq_true, false_implies, true_implies, implies_true, b2i_0, b2i_1, b2i_01, up_sc, sc_at, sc_sc, ite_true, ite_false, if_true, if_false, Nat.reduceEqDiff, reduceIte]
    repeat' (first | intro _ | refine And.intro ?_ ?_)
    all_goals first | omega | contradiction | exact main
  · rw [if_neg e] at hK
    simp only [s262_0, s262_1, s262_4, s262_7, s262_8, s262_9, s262_12, s262_13, s262_14, s262_15, s262_16, s262_17, sx_push, tf, List.length_cons, List.length_nil, Option.some.injEq, exists_eq_left', Nat.reduceAdd, Nat.reduceLeDiff, true_and, and_true, true_or, or_true, Int.zero_add, Nat.zero_le, eq_self, ne_eq, not_true_eq_false, not_false_eq_true, false_implies, true_implies, implies_true, b2i_0, b2i_1, b2i_01, up_sc, sc_at, sc_sc, ite_true, ite_false, if_true, if_false, Nat.reduceEqDiff, reduceIte]
    repeat' (first | intro _ | refine And.intro ?_ ?_)
    all_goals first | omega | contradiction | exact hK
theorem x266i (hw : wfc (σ 150)) (hr : 0 ≤ σ 149 36 ∧ σ 149 36 ≤ 12) {p q m b : Int} (p0 : 0 ≤ p) (p1 : p < 40) (q0 : 0 ≤ q) (q1 : q < 40) : ∀ (k : Nat) (o a : Int), o + k = 3 → 0 ≤ o → 0 ≤ a → a ≤ o → Rn 266 76 [some (vR 149), some (vI p), some (vI q), some (vI b), some (vI m), some (vI (cnt (fun o => ftR σ m && ftR σ o && decide (farA (σ 150) m p q = farA (σ 150) o p q)) k o a)), some (vI 3)] [] (T0 n) σ K → Rn 266 17 [some (vR 149), some (vI p), some (vI q), some (vI b), some (vI m), some (vI a), some (vI o)] [] (T0 n) σ K := by
  intro k
  induction k with
  | zero =>
    intro o a ho o0 a0 a1 hK
    obtain rfl : o = 3 := by omega
    rw [s266_17]
    simp only [s266_19, s266_20, sx_push, tf, List.length_cons, List.length_nil, Option.some.injEq, exists_eq_left', Nat.reduceAdd, Nat.reduceLeDiff, true_and, and_true, true_or, or_true, Int.zero_add, Nat.zero_le, eq_self, ne_eq, not_true_eq_false, not_false_eq_true, false_implies, true_implies, implies_true, b2i_0, b2i_1, b2i_01, up_sc, sc_at, sc_sc, ite_true, ite_false, if_true, if_false, Nat.reduceEqDiff, reduceIte]
    repeat' (first | intro _ | refine And.intro ?_ ?_)
    all_goals first | omega | exact hK
  | succ k ih =>
    intro o a ho o0 a0 a1 hK
    rw [s266_17]
    rw [cnt_s] at hK
    have xm := fun K => x263 (n := n) (σ := σ) (K := K) hw (m := m) hr
    have xo := fun K => x263 (n := n) (σ := σ) (K := K) hw (m := o) hr
    by_cases e : ftR σ m = true
    · rw [b2i_t e] at xm
      by_cases e2 : ftR σ o = true
      · rw [b2i_t e2] at xo
        by_cases e3 : farA (σ 150) m p q = farA (σ 150) o p q
        · rw [if_pos (by simp [e, e2, e3])] at hK
          simp only [s266_19, s266_20, s266_23, s266_25, s266_26, s266_28, s266_31, s266_34, s266_35, s266_37, s266_40, s266_43, s266_44, s266_46, s266_47, s266_48, s266_51, s266_52, s266_54, s266_55, s266_56, s266_59, s266_62, s266_63, s266_66, s266_67, s266_68, s266_70, s266_73, Int.reduceToNat, Int.reducePow, Nat.reducePow, Int.reduceLE, Int.reduceLT, Int.reduceNeg, Int.reduceEq, Int.reduceNe, Int.reduceAdd, Int.reduceSub, Int.reduceMul, and_self, sx_push, tf, List.length_cons, List.length_nil, Option.some.injEq, exists_eq_left', Nat.reduceAdd, Nat.reduceLeDiff, true_and, and_true, true_or, or_true, Int.zero_add, Nat.zero_le, eq_self, ne_eq, not_true_eq_false, not_false_eq_true, false_implies, true_implies, implies_true, b2i_0, b2i_1, b2i_01, up_sc, sc_at, sc_sc, ite_true, ite_false, if_true, if_false, Nat.reduceEqDiff, reduceIte, xm, xo, x264 hw p0 p1 q0 q1]
          repeat' (first | intro _ | refine And.intro ?_ ?_)
          all_goals first | omega | contradiction | exact ih _ _ (by omega) (by omega) (by omega) (by omega) hK
        · rw [if_neg (by simp [e, e2, e3])] at hK
          simp only [s266_19, s266_20, s266_23, s266_25, s266_26, s266_28, s266_31, s266_34, s266_35, s266_37, s266_40, s266_43, s266_44, s266_46, s266_47, s266_48, s266_51, s266_52, s266_54, s266_55, s266_56, s266_59, s266_62, s266_63, s266_66, s266_67, s266_68, s266_70, s266_73, Int.reduceToNat, Int.reducePow, Nat.reducePow, Int.reduceLE, Int.reduceLT, Int.reduceNeg, Int.reduceEq, Int.reduceNe, Int.reduceAdd, Int.reduceSub, Int.reduceMul, and_self, sx_push, tf, List.length_cons, List.length_nil, Option.some.injEq, exists_eq_left', Nat.reduceAdd, Nat.reduceLeDiff, true_and, and_true, true_or, or_true, Int.zero_add, Nat.zero_le, eq_self, ne_eq, not_true_eq_false, not_false_eq_true, false_implies, true_implies, implies_true, b2i_0, b2i_1, b2i_01, up_sc, sc_at, sc_sc, ite_true, ite_false, if_true, if_false, Nat.reduceEqDiff, reduceIte, xm, xo, x264 hw p0 p1 q0 q1, Int.add_zero]
          repeat' (first | intro _ | refine And.intro ?_ ?_)
          all_goals first | omega | contradiction | exact ih _ _ (by omega) (by omega) (by omega) (by omega) hK
      · rw [b2i_f e2] at xo
        rw [if_neg (by simp [e2])] at hK
        simp only [s266_19, s266_20, s266_23, s266_25, s266_26, s266_28, s266_31, s266_34, s266_35, s266_37, s266_40, s266_66, s266_67, s266_68, s266_70, s266_73, Int.reduceToNat, Int.reducePow, Nat.reducePow, Int.reduceLE, Int.reduceLT, Int.reduceNeg, Int.reduceEq, Int.reduceNe, Int.reduceAdd, Int.reduceSub, Int.reduceMul, and_self, sx_push, tf, List.length_cons, List.length_nil, Option.some.injEq, exists_eq_left', Nat.reduceAdd, Nat.reduceLeDiff, true_and, and_true, true_or, or_true, Int.zero_add, Nat.zero_le, eq_self, ne_eq, not_true_eq_false, not_false_eq_true, false_implies, true_implies, implies_true, b2i_0, b2i_1, b2i_01, up_sc, sc_at, sc_sc, ite_true, ite_false, if_true, if_false, Nat.reduceEqDiff, reduceIte, xm, xo, Int.add_zero]
        repeat' (first | intro _ | refine And.intro ?_ ?_)
        all_goals first | omega | contradiction | exact ih _ _ (by omega) (by omega) (by omega) (by omega) hK
    · rw [b2i_f e] at xm
      rw [if_neg (by simp [e])] at hK
      simp only [s266_19, s266_20, s266_23, s266_25, s266_26, s266_28, s266_31, s266_66, s266_67, s266_68, s266_70, s266_73, Int.reduceToNat, Int.reducePow, Nat.reducePow, Int.reduceLE, Int.reduceLT, Int.reduceNeg, Int.reduceEq, Int.reduceNe, Int.reduceAdd, Int.reduceSub, Int.reduceMul, and_self, sx_push, tf, List.length_cons, List.length_nil, Option.some.injEq, exists_eq_left', Nat.reduceAdd, Nat.reduceLeDiff, true_and, and_true, true_or, or_true, Int.zero_add, Nat.zero_le, eq_self, ne_eq, not_true_eq_false, not_false_eq_true, false_implies, true_implies, implies_true, b2i_0, b2i_1, b2i_01, up_sc, sc_at, sc_sc, ite_true, ite_false, if_true, if_false, Nat.reduceEqDiff, reduceIte, xm, Int.add_zero]
      repeat' (first | intro _ | refine And.intro ?_ ?_)
      all_goals first | omega | contradiction | exact ih _ _ (by omega) (by omega) (by omega) (by omega) hK
theorem x266l (hw : wfc (σ 150)) (hr : 0 ≤ σ 149 36 ∧ σ 149 36 ≤ 12) {p q : Int} (p0 : 0 ≤ p) (p1 : p < 40) (q0 : 0 ≤ q) (q1 : q < 40) : ∀ (k : Nat) (m b : Int) (u v : Option sxV), m + k = 3 → 0 ≤ m → K (some (vI (mxA (fun m => cnt (fun o => ftR σ m && ftR σ o && decide (farA (σ 150) m p q = farA (σ 150) o p q)) 3 0 0) k m b))) (T0 n) σ → Rn 266 5 [some (vR 149), some (vI p), some (vI q), some (vI b), some (vI m), u, v] [] (T0 n) σ K := by
  intro k
  induction k with
  | zero =>
    intro m b u v hm m0 hK
    rw [s266_5]
    simp only [s266_7, s266_8, s266_89, s266_90, sx_push, tf, List.length_cons, List.length_nil, Option.some.injEq, exists_eq_left', Nat.reduceAdd, Nat.reduceLeDiff, true_and, and_true, true_or, or_true, Int.zero_add, Nat.zero_le, eq_self, ne_eq, not_true_eq_false, not_false_eq_true, false_implies, true_implies, implies_true, b2i_0, b2i_1, b2i_01, up_sc, sc_at, sc_sc, ite_true, ite_false, if_true, if_false, Nat.reduceEqDiff, reduceIte]
    repeat' (first | intro _ | refine And.intro ?_ ?_)
    all_goals first | omega | exact hK
  | succ k ih =>
    intro m b u v hm m0 hK
    rw [s266_5]
    unfold mxA at hK
    simp only [s266_7, s266_8, s266_11, s266_12, s266_14, s266_15, sx_push, tf, List.length_cons, List.length_nil, Option.some.injEq, exists_eq_left', Nat.reduceAdd, Nat.reduceLeDiff, true_and, and_true, true_or, or_true, Int.zero_add, Nat.zero_le, eq_self, ne_eq, not_true_eq_false, not_false_eq_true, false_implies, true_implies, implies_true, b2i_0, b2i_1, b2i_01, up_sc, sc_at, sc_sc, ite_true, ite_false, if_true, if_false, Nat.reduceEqDiff, reduceIte]
    repeat' (first | intro _ | refine And.intro ?_ ?_)
    all_goals first | omega | skip
    refine x266i hw hr p0 p1 q0 q1 3 0 0 (by omega) (by omega) (by omega) (by omega) ?_
    simp only [s266_76, s266_77, s266_79, s266_82, s266_83, s266_86, sx_push, tf, List.length_cons, List.length_nil, Option.some.injEq, exists_eq_left', Nat.reduceAdd, Nat.reduceLeDiff, true_and, and_true, true_or, or_true, Int.zero_add, Nat.zero_le, eq_self, ne_eq, not_true_eq_false, not_false_eq_true, false_implies, true_implies, implies_true, b2i_0, b2i_1, b2i_01, up_sc, sc_at, sc_sc, ite_true, ite_false, if_true, if_false, Nat.reduceEqDiff, reduceIte, x199]
    exact ⟨by omega, ih _ _ _ _ (by omega) (by omega) hK⟩
theorem x266 (hw : wfc (σ 150)) (hr : 0 ≤ σ 149 36 ∧ σ 149 36 ≤ 12) {p q : Int} (p0 : 0 ≤ p) (p1 : p < 40) (q0 : 0 ≤ q) (q1 : q < 40) : Rn 266 0 [some (vR 149), some (vI p), some (vI q), none, none, none, none] [] (T0 n) σ K ↔ K (some (vI (lbT (fun m => farA (σ 150) m p q) (ftR σ)))) (T0 n) σ := by
  refine Rn_iff fun K hK => ?_
  simp only [s266_0, s266_1, s266_2, s266_3, sx_push, tf, List.length_cons, List.length_nil, Option.some.injEq, exists_eq_left', Nat.reduceAdd, Nat.reduceLeDiff, true_and, and_true, true_or, or_true, Int.zero_add, Nat.zero_le, eq_self, ne_eq, not_true_eq_false, not_false_eq_true, false_implies, true_implies, implies_true, b2i_0, b2i_1, b2i_01, up_sc, sc_at, sc_sc, ite_true, ite_false, if_true, if_false, Nat.reduceEqDiff, reduceIte]
  exact x266l hw hr p0 p1 q0 q1 3 0 0 _ _ (by omega) (by omega) hK
/-- how many fits are left at the most by a pair -/
def lbD (f : Int → Int) (ft : Int → Bool) (p q : Int) : Int := lbT (fun m => farA f m p q) ft
theorem x265i (h01 : th01 (σ 150)) (hw : wfc (σ 150)) (hr : 0 ≤ σ 149 36 ∧ σ 149 36 ≤ 12) {a w : Int} (a0 : 0 ≤ a) (a1 : a < 40) : ∀ (k : Nat) (b o t : Int) (u : Option sxV), b + k = 40 → a < b → oT (σ 150) a b o t → (∀ u, Rn 265 129 [some (vR 149), some (vI w), some (vI (prI (σ 150) (lbD (σ 150) (ftR σ)) 0 a k b o t).1), some (vI (prI (σ 150) (lbD (σ 150) (ftR σ)) 0 a k b o t).2), some (vI (if (prI (σ 150) (lbD (σ 150) (ftR σ)) 0 a k b o t).1 = -1 then 1000000 else lbD (σ 150) (ftR σ) (prI (σ 150) (lbD (σ 150) (ftR σ)) 0 a k b o t).1 (prI (σ 150) (lbD (σ 150) (ftR σ)) 0 a k b o t).2)), some (vI a), some (vI 40), u] [] (T0 n) σ K) → Rn 265 59 [some (vR 149), some (vI w), some (vI o), some (vI t), some (vI (if o = -1 then 1000000 else lbD (σ 150) (ftR σ) o t)), some (vI a), some (vI b), u] [] (T0 n) σ K := by
  intro k
  induction k with
  | zero =>
    intro b o t u hb ab h hK
    obtain rfl : b = 40 := by omega
    rw [s265_59]
    have := hK u
    simp only [s265_61, s265_63, sx_push, tf, List.length_cons, List.length_nil, Option.some.injEq, exists_eq_left', Nat.reduceAdd, Nat.reduceLeDiff, true_and, and_true, true_or, or_true, Int.zero_add, Nat.zero_le, eq_self, ne_eq, not_true_eq_false, not_false_eq_true, false_implies, true_implies, implies_true, b2i_0, b2i_1, b2i_01, up_sc, sc_at, sc_sc, ite_true, ite_false, if_true, if_false, Nat.reduceEqDiff, reduceIte]
    repeat' (first | intro _ | refine And.intro ?_ ?_)
    all_goals first | omega | exact this
  | succ k ih =>
    intro b o t u hb ab h hK
    have b1 : b < 40 := by omega
    rw [s265_59]
    have h' : oT (σ 150) a (b + 1) o t := by
      rcases h with z | ⟨z1, z2, z3⟩
      · exact Or.inl z
      · exact Or.inr ⟨z1, z2, by omega⟩
    rcases h01 a a0 a1 with e | e
    · rw [prI_no (by omega)] at hK
      simp only [s265_61, s265_63, s265_66, s265_67, s265_70, s265_71, s265_73, s265_74, s265_75, s265_123, s265_126, sx_push, tf, List.length_cons, List.length_nil, Option.some.injEq, exists_eq_left', Nat.reduceAdd, Nat.reduceLeDiff, true_and, and_true, true_or, or_true, Int.zero_add, Nat.zero_le, eq_self, ne_eq, not_true_eq_false, not_false_eq_true, false_implies, true_implies, implies_true, b2i_0, b2i_1, b2i_01, up_sc, sc_at, sc_sc, ite_true, ite_false, if_true, if_false, Nat.reduceEqDiff, reduceIte, e]
      repeat' (first | intro _ | refine And.intro ?_ ?_)
      all_goals first | omega | exact ih (b + 1) o t _ (by omega) (by omega) h' hK
    · rcases h01 b (by omega) b1 with e2 | e2
      · rw [prI_no (by omega)] at hK
        simp only [s265_61, s265_63, s265_66, s265_67, s265_70, s265_71, s265_73, s265_74, s265_75, s265_78, s265_79, s265_82, s265_83, s265_85, s265_86, s265_87, s265_90, s265_123, s265_126, sx_push, tf, List.length_cons, List.length_nil, Option.some.injEq, exists_eq_left', Nat.reduceAdd, Nat.reduceLeDiff, true_and, and_true, true_or, or_true, Int.zero_add, Nat.zero_le, eq_self, ne_eq, not_true_eq_false, not_false_eq_true, false_implies, true_implies, implies_true, b2i_0, b2i_1, b2i_01, up_sc, sc_at, sc_sc, ite_true, ite_false, if_true, if_false, Nat.reduceEqDiff, reduceIte, e, e2]
        repeat' (first | intro _ | refine And.intro ?_ ?_)
        all_goals first | omega | exact ih (b + 1) o t _ (by omega) (by omega) h' hK
      · have x266' := fun K => x266 (n := n) (σ := σ) (K := K) hw hr a0 a1 (show 0 ≤ b by omega) b1
        have li := lb_in (fun m => farA (σ 150) m a b) (ftR σ)
        have hnew : oT (σ 150) a (b + 1) a b := Or.inr ⟨⟨a0, ab, b1⟩, ⟨e, e2⟩, Or.inr ⟨rfl, by omega⟩⟩
        have n1 : a ≠ -1 := by omega
        simp only [s265_61, s265_63, s265_66, s265_67, s265_70, s265_71, s265_73, s265_74, s265_75, s265_78, s265_79, s265_82, s265_83, s265_85, s265_86, s265_87, s265_90, s265_93, s265_94, s265_96, s265_98, s265_101, s265_103, s265_105, s265_107, s265_110, s265_113, s265_115, s265_116, s265_118, s265_119, s265_121, s265_123, s265_126, sx_push, tf, List.length_cons, List.length_nil, Option.some.injEq, exists_eq_left', Nat.reduceAdd, Nat.reduceLeDiff, true_and, and_true, true_or, or_true, Int.zero_add, Nat.zero_le, eq_self, ne_eq, not_true_eq_false, not_false_eq_true, false_implies, true_implies, implies_true, b2i_0, b2i_1, b2i_01, up_sc, sc_at, sc_sc, ite_true, ite_false, if_true, if_false, Nat.reduceEqDiff, reduceIte, e, e2, x266']
        change _ ≤ lbD (σ 150) (ftR σ) a b ∧ lbD (σ 150) (ftR σ) a b ≤ _ at li
        simp only [show lbT (fun m => farA (σ 150) m a b) (ftR σ) = lbD (σ 150) (ftR σ) a b from rfl]
        rcases h with ⟨z1, z2⟩ | ⟨z1, z2, z3⟩
        · rw [prI_ye ⟨⟨e, e2⟩, Or.inl z1⟩] at hK
          have go := fun u => ih (b + 1) a b u (by omega) (by omega) hnew hK
          rw [if_neg n1] at go
          rw [if_pos z1]
          repeat' (first | intro _ | refine And.intro ?_ ?_)
          all_goals first | omega | exact go _
        · rw [if_neg (show ¬ o = -1 by omega)]
          by_cases e3 : lbD (σ 150) (ftR σ) a b < lbD (σ 150) (ftR σ) o t
          · rw [prI_ye ⟨⟨e, e2⟩, Or.inr (Or.inl ⟨rfl, e3⟩)⟩] at hK
            have go := fun u => ih (b + 1) a b u (by omega) (by omega) hnew hK
            rw [if_neg n1] at go
            repeat' (first | intro _ | refine And.intro ?_ ?_)
            all_goals first | omega | exact go _
          · rw [prI_no (by omega)] at hK
            have go := fun u => ih (b + 1) o t u (by omega) (by omega) h' hK
            rw [if_neg (show ¬ o = -1 by omega)] at go
            repeat' (first | intro _ | refine And.intro ?_ ?_)
            all_goals first | omega | exact go _
theorem x265l (h01 : th01 (σ 150)) (hw : wfc (σ 150)) (hr : 0 ≤ σ 149 36 ∧ σ 149 36 ≤ 12) {w : Int} : ∀ (k : Nat) (a o t : Int) (u v : Option sxV), a + k = 40 → 0 ≤ a → oT (σ 150) a (a + 1) o t → (∀ u v, Rn 265 135 [some (vR 149), some (vI w), some (vI (prO (σ 150) (lbD (σ 150) (ftR σ)) 0 k a o t).1), some (vI (prO (σ 150) (lbD (σ 150) (ftR σ)) 0 k a o t).2), some (vI (if (prO (σ 150) (lbD (σ 150) (ftR σ)) 0 k a o t).1 = -1 then 1000000 else lbD (σ 150) (ftR σ) (prO (σ 150) (lbD (σ 150) (ftR σ)) 0 k a o t).1 (prO (σ 150) (lbD (σ 150) (ftR σ)) 0 k a o t).2)), some (vI 40), u, v] [] (T0 n) σ K) → Rn 265 46 [some (vR 149), some (vI w), some (vI o), some (vI t), some (vI (if o = -1 then 1000000 else lbD (σ 150) (ftR σ) o t)), some (vI a), u, v] [] (T0 n) σ K := by
  intro k
  induction k with
  | zero =>
    intro a o t u v ha a0 h hK
    obtain rfl : a = 40 := by omega
    rw [s265_46]
    have := hK u v
    simp only [s265_48, s265_50, sx_push, tf, List.length_cons, List.length_nil, Option.some.injEq, exists_eq_left', Nat.reduceAdd, Nat.reduceLeDiff, true_and, and_true, true_or, or_true, Int.zero_add, Nat.zero_le, eq_self, ne_eq, not_true_eq_false, not_false_eq_true, false_implies, true_implies, implies_true, b2i_0, b2i_1, b2i_01, up_sc, sc_at, sc_sc, ite_true, ite_false, if_true, if_false, Nat.reduceEqDiff, reduceIte]
    repeat' (first | intro _ | refine And.intro ?_ ?_)
    all_goals first | omega | exact this
  | succ k ih =>
    intro a o t u v ha a0 h hK
    rw [s265_46]
    unfold prO at hK
    have pin := prI_in (d := lbD (σ 150) (ftR σ)) (wd := 0) a0 k (a + 1) o t (by omega) (by omega) h
    have main := fun (K' : ∀ u, Rn 265 129 [some (vR 149), some (vI w), some (vI (prI (σ 150) (lbD (σ 150) (ftR σ)) 0 a k (a + 1) o t).1), some (vI (prI (σ 150) (lbD (σ 150) (ftR σ)) 0 a k (a + 1) o t).2), some (vI (if (prI (σ 150) (lbD (σ 150) (ftR σ)) 0 a k (a + 1) o t).1 = -1 then 1000000 else lbD (σ 150) (ftR σ) (prI (σ 150) (lbD (σ 150) (ftR σ)) 0 a k (a + 1) o t).1 (prI (σ 150) (lbD (σ 150) (ftR σ)) 0 a k (a + 1) o t).2)), some (vI a), some (vI 40), u] [] (T0 n) σ K) => x265i h01 hw hr a0 (by omega) k (a + 1) o t v (by omega) (by omega) h K'
    generalize prI (σ 150) (lbD (σ 150) (ftR σ)) 0 a k (a + 1) o t = P at *
    simp only [s265_48, s265_50, s265_53, s265_55, s265_56, s265_57, sx_push, tf, List.length_cons, List.length_nil, Option.some.injEq, exists_eq_left', Nat.reduceAdd, Nat.reduceLeDiff, true_and, and_true, true_or, or_true, Int.zero_add, Nat.zero_le, eq_self, ne_eq, not_true_eq_false, not_false_eq_true, false_implies, true_implies, implies_true, b2i_0, b2i_1, b2i_01, up_sc, sc_at, sc_sc, ite_true, ite_false, if_true, if_false, Nat.reduceEqDiff, reduceIte]
    repeat' (first | intro _ | refine And.intro ?_ ?_)
    all_goals first | omega | skip
    refine main (fun u => ?_)
    simp only [s265_129, s265_132, sx_push, tf, List.length_cons, List.length_nil, Option.some.injEq, exists_eq_left', Nat.reduceAdd, Nat.reduceLeDiff, true_and, and_true, true_or, or_true, Int.zero_add, Nat.zero_le, eq_self, ne_eq, not_true_eq_false, not_false_eq_true, false_implies, true_implies, implies_true, b2i_0, b2i_1, b2i_01, up_sc, sc_at, sc_sc, ite_true, ite_false, if_true, if_false, Nat.reduceEqDiff, reduceIte]
    exact ⟨by omega, ih (a + 1) P.1 P.2 _ _ (by omega) (by omega) pin hK⟩
def tellS (f : Int → Int) (ft : Int → Bool) (h w : Int) : Int := if h ≠ 0 ∧ 2 ≤ cntF f 40 0 0 ∧ (0 ≤ w ∧ w ≤ 2) ∧ cnt ft 3 0 0 ≠ 0 then (if w = 0 then (pairT f (lbD f ft) 0).1 else if w = 1 then (pairT f (lbD f ft) 0).2 else lbD f ft (pairT f (lbD f ft) 0).1 (pairT f (lbD f ft) 0).2) else -1
theorem x265 (hO : invF (σ 150)) (hr : 0 ≤ σ 149 36 ∧ σ 149 36 ≤ 12) {w : Int} : Rn 265 0 [some (vR 149), some (vI w), none, none, none, none, none, none] [] (T0 n) σ K ↔ K (some (vI (tellS (σ 150) (ftR σ) (σ 149 6) w))) (T0 n) σ := by
  refine Rn_iff fun K hK => ?_
  unfold tellS at hK
  have lz : lbT (fun m => farA (σ 150) m 0 0) (ftR σ) = 0 ↔ cnt (ftR σ) 3 0 0 = 0 := lb_0 (fun m => farF_s (hO.2.1 0 (by omega) (by omega)).1 (hO.2.1 0 (by omega) (by omega)).2.1 (hO.2.1 0 (by omega) (by omega)).2.2)
  have x266' := fun K => x266 (n := n) (σ := σ) (K := K) hO.2.1 hr (p := 0) (q := 0) (by omega) (by omega) (by omega) (by omega)
  generalize lbT (fun m => farA (σ 150) m 0 0) (ftR σ) = L at *
  by_cases e : σ 149 6 ≠ 0 ∧ 2 ≤ cntF (σ 150) 40 0 0 ∧ (0 ≤ w ∧ w ≤ 2) ∧ cnt (ftR σ) 3 0 0 ≠ 0
  · rw [if_pos e] at hK
    have l0 : L ≠ 0 := fun z => e.2.2.2 (lz.mp z)
    have pi := pairT_in hO.1 (lbD (σ 150) (ftR σ)) 0 e.2.1
    have main := fun (K' : ∀ u v, Rn 265 135 [some (vR 149), some (vI w), some (vI (pairT (σ 150) (lbD (σ 150) (ftR σ)) 0).1), some (vI (pairT (σ 150) (lbD (σ 150) (ftR σ)) 0).2), some (vI (if (pairT (σ 150) (lbD (σ 150) (ftR σ)) 0).1 = -1 then 1000000 else lbD (σ 150) (ftR σ) (pairT (σ 150) (lbD (σ 150) (ftR σ)) 0).1 (pairT (σ 150) (lbD (σ 150) (ftR σ)) 0).2)), some (vI 40), u, v] [] (T0 n) σ K) => x265l hO.1 hO.2.1 hr 40 0 (-1) (-1) none none (by omega) (by omega) (Or.inl ⟨rfl, rfl⟩) K'
    rw [if_pos rfl] at main
    generalize pairT (σ 150) (lbD (σ 150) (ftR σ)) 0 = P at *
    rw [if_neg (show ¬ P.1 = -1 by omega)] at main
    simp only [s265_0, s265_1, s265_4, s265_7, s265_8, s265_11, s265_12, s265_15, s265_16, s265_17, s265_18, s265_21, s265_24, s265_25, s265_26, s265_27, s265_30, s265_33, s265_34, s265_35, s265_36, s265_37, s265_38, s265_39, s265_41, s265_43, s265_44, sx_push, tf, List.length_cons, List.length_nil, Option.some.injEq, exists_eq_left', Nat.reduceAdd, Nat.reduceLeDiff, true_and, and_true, true_or, or_true, Int.zero_add, Nat.zero_le, eq_self, ne_eq, not_true_eq_false, not_false_eq_true, false_implies, true_implies, implies_true, b2i_0, b2i_1, b2i_01, up_sc, sc_at, sc_sc, ite_true, ite_false, if_true, if_false, Nat.reduceEqDiff, reduceIte, x202 hO.1, x185, x266']
    repeat' (first | intro _ | refine And.intro ?_ ?_)
    all_goals first | omega | contradiction | skip
    refine main (fun u v => ?_)
    simp only [s265_135, s265_136, s265_139, s265_140, s265_143, s265_144, s265_145, s265_148, s265_149, s265_152, s265_154, sx_push, tf, List.length_cons, List.length_nil, Option.some.injEq, exists_eq_left', Nat.reduceAdd, Nat.reduceLeDiff, true_and, and_true, true_or, or_true, Int.zero_add, Nat.zero_le, eq_self, ne_eq, not_true_eq_false, not_false_eq_true, false_implies, true_implies, implies_true, b2i_0, b2i_1, b2i_01, up_sc, sc_at, sc_sc, ite_true, ite_false, if_true, if_false, Nat.reduceEqDiff, reduceIte]
    repeat' (first | intro _ | refine And.intro ?_ ?_)
    all_goals first | omega | (rw [if_pos (by omega)] at hK; exact hK) | (rw [if_neg (by omega), if_pos (by omega)] at hK; exact hK) | (rw [if_neg (by omega), if_neg (by omega)] at hK; exact hK)
  · rw [if_neg e] at hK
    simp only [s265_0, s265_1, s265_4, s265_7, s265_8, s265_11, s265_12, s265_15, s265_16, s265_17, s265_18, s265_21, s265_24, s265_25, s265_26, s265_27, s265_30, s265_33, s265_34, sx_push, tf, List.length_cons, List.length_nil, Option.some.injEq, exists_eq_left', Nat.reduceAdd, Nat.reduceLeDiff, true_and, and_true, true_or, or_true, Int.zero_add, Nat.zero_le, eq_self, ne_eq, not_true_eq_false, not_false_eq_true, false_implies, true_implies, implies_true, b2i_0, b2i_1, b2i_01, up_sc, sc_at, sc_sc, ite_true, ite_false, if_true, if_false, Nat.reduceEqDiff, reduceIte, x202 hO.1, x185, x266']
    repeat' (first | intro _ | refine And.intro ?_ ?_)
    all_goals first | exact hK | omega
end W1
