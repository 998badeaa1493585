/-! searches: the class's loops, and the calls -/
/-- the class's cells in a search -/
def qC (σ : sxS) (o : Nat) (f : Int → Int) (x y z : Int) (st : Int → Int) (b c : Int) (R : List (Int × Int × Int × Int)) : Prop := (∀ p, 0 ≤ p → p < 40 → (st p = 1 → σ (o + 2) p = 1 ∧ σ (o + 1) p = farT f p x y z) ∧ (st p ≠ 1 → σ (o + 2) p = 0)) ∧ σ o 10 = b ∧ σ o 11 = farT f b x y z ∧ σ o 9 = c ∧ σ o 8 = R.length ∧ rowsC R 0 (σ (o + 3)) (σ (o + 4)) (σ (o + 5)) (σ (o + 6))
theorem sgn_fr {σ σ' : sxS} {o : Nat} {lg : Int} (h : sgn σ o lg) (e : σ' o 1 = σ o 1) : sgn σ' o lg := by
  unfold sgn; rw [e]; exact h
section S5
variable {n : Nat} {σ : sxS} {K : Option sxV → sxT → sxS → Prop} {f : Int → Int} {o : Nat}
theorem isS_in (ho : isS o) : 119 ≤ o := by unfold isS at ho; omega
theorem x79l (ho : isS o) (hO : invF f) {x y z lg k : Int} (hx : in8 x) (hy : in8 y) (hz : in8 z) (k0 : 1 ≤ k) (k1 : k ≤ 10) : ∀ (m : Nat) (p : Int) (σ : sxS) (st : Int → Int) (b c : Int) (R : List (Int × Int × Int × Int)) (u : Option sxV), p + m = 40 → 0 ≤ p → rL σ 7 f → rP σ 7 f → sgn σ o lg → qC σ o f x y z st b c R → (0 ≤ b ∧ b < 40) → 0 ≤ c → c + m ≤ 1000 → (∀ σ', fr σ σ' o (o + 6) → σ' o 1 = σ o 1 → qC σ' o f x y z (lkF f x y z lg k m p st b c).1 (lkF f x y z lg k m p st b c).2.1 (lkF f x y z lg k m p st b c).2.2 R → K none (T0 n) σ') → Rn 79 2 [some (vR o), some (vI (k - 1)), some (vI (pk x y z)), some (vI p), u] [] (T0 n) σ K := by
  intro m
  induction m with
  | zero =>
    intro p σ st b c R u hp p0 hr hpr hs hq hb hc hc' hK
    rw [s79_2]
    simp only [s79_3, s79_5, s79_8, s79_9, s79_12, s79_15, s79_16, s79_17, s79_18, s79_21, s79_22, s79_25, s79_28, s79_29, s79_30, s79_32, s79_33, s79_36, s79_38, s79_41, s79_44, s79_45, s79_48, s79_50, s79_51, s79_54, s79_55, s79_56, s79_57, s79_60, s79_63, s79_66, sx_push, tf, List.length_cons, List.length_nil, Option.some.injEq, exists_eq_left', Nat.reduceAdd, Nat.reduceLeDiff, true_and, and_true, true_or, or_true, Int.zero_add, Nat.zero_le, eq_self, ne_eq, not_true_eq_false, not_false_eq_true, false_implies, true_implies, implies_true, b2i_0, b2i_1, b2i_01, up_sc, sc_at, sc_sc, ite_true, ite_false, if_true, if_false, Nat.reduceEqDiff, reduceIte]
    have := hK σ fr_rfl rfl hq
    repeat' (first | intro _ | refine And.intro ?_ ?_)
    all_goals first | omega | exact this
  | succ m ih =>
    intro p σ st b c R u hp p0 hr hpr hs hq hb hc hc' hK
    have p1 : p < 40 := by omega
    have ob := isS_in ho
    have hq' := hq
    obtain ⟨q1, q2, q3, q4, q5, q6⟩ := hq'
    have fb := farT_in hO.2.1 hb.1 hb.2 hx hy hz
    rw [s79_2]
    unfold lkF at hK
    by_cases e : f p = 1 ∧ f (160 + p) = k - 1 ∧ st (f (200 + p)) = 1
    · simp only [if_pos e] at hK
      have t := (hO.2.2.1 p p0 p1 e.1).2.2 (by omega)
      have l9 : σ 9 p = f (160 + p) := rL_v hr p p0 p1 e.1
      have pa : σ 10 p = f (200 + p) := hpr p p0 p1 e.1
      have g1 := ((q1 _ t.1.1 t.1.2).1 e.2.2).1
      have x49' := fun K => x49 (n := n) (σ := σ) (K := K) isP7 hr (p := f (200 + p))
      rw [b2i_t ⟨t.1, t.2.1⟩] at x49'
      simp only [s79_3, s79_5, s79_8, s79_9, s79_12, s79_15, s79_16, s79_17, s79_18, s79_21, s79_22, s79_25, s79_28, s79_29, s79_30, s79_32, s79_33, s79_36, s79_38, s79_41, s79_44, s79_45, s79_48, s79_50, s79_51, s79_54, s79_55, s79_56, s79_57, Int.reduceToNat, Int.reducePow, Nat.reducePow, Int.reduceLE, Int.reduceLT, Int.reduceNeg, Int.reduceEq, Int.reduceNe, Int.reduceAdd, Int.reduceSub, Int.reduceMul, and_self, sx_push, tf, List.length_cons, List.length_nil, Option.some.injEq, exists_eq_left', Nat.reduceAdd, Nat.reduceLeDiff, true_and, and_true, true_or, or_true, Int.zero_add, Nat.zero_le, eq_self, ne_eq, not_true_eq_false, not_false_eq_true, false_implies, true_implies, implies_true, b2i_0, b2i_1, b2i_01, up_sc, sc_at, sc_sc, ite_true, ite_false, if_true, if_false, Nat.reduceEqDiff, reduceIte, ts ho, l9, pa, e.2.1, x49', g1]
      repeat' (first | intro _ | refine And.intro ?_ ?_)
      all_goals first | omega | contradiction | skip
      refine x78 ho hr hO.2.1 hs hx hy hz p0 p1 e.1 (by omega) (by omega) (fun _ => by rw [q3, q2]) (fun σ' a1 a2 a3 a4 a5 a6 a7 a8 => ?_)
      simp only [s79_60, s79_63, sx_push, tf, List.length_cons, List.length_nil, Option.some.injEq, exists_eq_left', Nat.reduceAdd, Nat.reduceLeDiff, true_and, and_true, true_or, or_true, Int.zero_add, Nat.zero_le, eq_self, ne_eq, not_true_eq_false, not_false_eq_true, false_implies, true_implies, implies_true, b2i_0, b2i_1, b2i_01, up_sc, sc_at, sc_sc, ite_true, ite_false, if_true, if_false, Nat.reduceEqDiff, reduceIte]
      refine ⟨by omega, ih (p + 1) σ' (up1 st p 1) (if btr f x y z lg p b = true then p else b) (c + 1) R _ (by omega) (by omega) (rL_fr a1 (by omega) hr) (rP_fr a1 (by omega) hpr) (sgn_fr hs (a5 1 (by decide))) ⟨fun q x1 x2 => ?_, ?_, ?_, ?_, ?_, ?_⟩ ?_ (by omega) (by omega) (fun σ2 d1 d2 d3 => hK σ2 (fr_tr a1 d1) (d2.trans (a5 1 (by decide))) d3)⟩
      · rw [a2, a3]
        by_cases e2 : q = p
        · subst e2
          rw [up1_s, up1_s, up1_s]
          exact ⟨fun _ => ⟨rfl, rfl⟩, fun z => absurd rfl z⟩
        · rw [up1_n e2, up1_n e2, up1_n e2]; exact q1 q x1 x2
      · rw [a7, q2]
        by_cases e2 : btr f x y z lg p b = true
        · rw [if_pos (Or.inr e2), if_pos e2]
        · rw [if_neg (fun z => z.elim (by omega) e2), if_neg e2]
      · rw [a8, q2, q3]
        by_cases e2 : btr f x y z lg p b = true
        · rw [if_pos (Or.inr e2), if_pos e2]
        · rw [if_neg (fun z => z.elim (by omega) e2), if_neg e2]
      · rw [a6, q4]
      · rw [a5 8 (by decide)]; exact q5
      · rw [a4.1, a4.2.1, a4.2.2.1, a4.2.2.2]; exact q6
      · split
        · exact ⟨p0, p1⟩
        · exact hb
    · simp only [if_neg e] at hK
      have go : ∀ u, Rn 79 2 [some (vR o), some (vI (k - 1)), some (vI (pk x y z)), some (vI (p + 1)), u] [] (T0 n) σ K := fun u => ih (p + 1) σ st b c R u (by omega) (by omega) hr hpr hs hq hb hc (by omega) hK
      rcases hO.1 p p0 p1 with c0 | c0
      · have l9 : σ 9 p < 0 := by
          rcases rL7 hr p p0 p1 with z | z
          · omega
          · exact z.2
        simp only [s79_3, s79_5, s79_8, s79_9, s79_12, s79_15, s79_16, s79_17, s79_18, s79_60, s79_63, sx_push, tf, List.length_cons, List.length_nil, Option.some.injEq, exists_eq_left', Nat.reduceAdd, Nat.reduceLeDiff, true_and, and_true, true_or, or_true, Int.zero_add, Nat.zero_le, eq_self, ne_eq, not_true_eq_false, not_false_eq_true, false_implies, true_implies, implies_true, b2i_0, b2i_1, b2i_01, up_sc, sc_at, sc_sc, ite_true, ite_false, if_true, if_false, Nat.reduceEqDiff, reduceIte, ts ho]
        repeat' (first | intro _ | refine And.intro ?_ ?_)
        all_goals first | omega | exact go _ | contradiction
      · have l9 : σ 9 p = f (160 + p) := rL_v hr p p0 p1 c0
        by_cases c1 : f (160 + p) = k - 1
        · have t := (hO.2.2.1 p p0 p1 c0).2.2 (by omega)
          have pa : σ 10 p = f (200 + p) := hpr p p0 p1 c0
          have g1 := (q1 _ t.1.1 t.1.2).2 (fun z => e ⟨c0, c1, z⟩)
          have x49' := fun K => x49 (n := n) (σ := σ) (K := K) isP7 hr (p := f (200 + p))
          rw [b2i_t ⟨t.1, t.2.1⟩] at x49'
          simp only [s79_3, s79_5, s79_8, s79_9, s79_12, s79_15, s79_16, s79_17, s79_18, s79_21, s79_22, s79_25, s79_28, s79_29, s79_30, s79_32, s79_33, s79_36, s79_38, s79_41, s79_44, s79_45, s79_48, s79_50, s79_51, s79_60, s79_63, Int.reduceToNat, Int.reducePow, Nat.reducePow, Int.reduceLE, Int.reduceLT, Int.reduceNeg, Int.reduceEq, Int.reduceNe, Int.reduceAdd, Int.reduceSub, Int.reduceMul, and_self, sx_push, tf, List.length_cons, List.length_nil, Option.some.injEq, exists_eq_left', Nat.reduceAdd, Nat.reduceLeDiff, true_and, and_true, true_or, or_true, Int.zero_add, Nat.zero_le, eq_self, ne_eq, not_true_eq_false, not_false_eq_true, false_implies, true_implies, implies_true, b2i_0, b2i_1, b2i_01, up_sc, sc_at, sc_sc, ite_true, ite_false, if_true, if_false, Nat.reduceEqDiff, reduceIte, ts ho, l9, pa, c1, x49', g1]
          repeat' (first | intro _ | refine And.intro ?_ ?_)
          all_goals first | omega | exact go _ | contradiction
        · simp only [s79_3, s79_5, s79_8, s79_9, s79_12, s79_15, s79_16, s79_17, s79_18, s79_60, s79_63, sx_push, tf, List.length_cons, List.length_nil, Option.some.injEq, exists_eq_left', Nat.reduceAdd, Nat.reduceLeDiff, true_and, and_true, true_or, or_true, Int.zero_add, Nat.zero_le, eq_self, ne_eq, not_true_eq_false, not_false_eq_true, false_implies, true_implies, implies_true, b2i_0, b2i_1, b2i_01, up_sc, sc_at, sc_sc, ite_true, ite_false, if_true, if_false, Nat.reduceEqDiff, reduceIte, ts ho, l9]
          repeat' (first | intro _ | refine And.intro ?_ ?_)
          all_goals first | omega | exact go _ | contradiction
theorem x81 (ho : isS o) (hO : invF f) (hz : rtP f) (hr : rL σ 7 f) (hpr : rP σ 7 f) {p k : Int} {R : List (Int × Int × Int × Int)} (p0 : 0 ≤ p) (p1 : p < 40) (hp : f p = 1) (k0 : 1 ≤ k) (k1 : k ≤ 10) (h8 : σ o 8 = R.length) (hR : (R.length : Int) ≤ 39) (hrow : rowsC R 0 (σ (o + 3)) (σ (o + 4)) (σ (o + 5)) (σ (o + 6))) (hK : ∀ σ', fr σ σ' o (o + 6) → σ' (o + 1) = σ (o + 1) → σ' (o + 2) = σ (o + 2) → (∀ j, j ≠ 8 → σ' o j = σ o j) → σ' o 8 = ((if spN f p k = 0 then R else R ++ [(p, k, σ (o + 1) p, spN f p k)]).length : Int) → rowsC (if spN f p k = 0 then R else R ++ [(p, k, σ (o + 1) p, spN f p k)]) 0 (σ' (o + 3)) (σ' (o + 4)) (σ' (o + 5)) (σ' (o + 6)) → K none (T0 n) σ') : Rn 81 0 [some (vR o), some (vI p), some (vI k), none] [] (T0 n) σ K := by
  have sp := spN_in f p k
  by_cases e : spN f p k = 0
  · simp only [if_pos e] at hK
    have := hK σ fr_rfl rfl rfl (fun _ _ => rfl) h8 hrow
    simp only [s81_0, s81_1, s81_4, s81_5, s81_6, s81_9, s81_10, s81_11, s81_14, s81_15, s81_18, s81_20, s81_23, s81_24, s81_27, s81_28, s81_31, s81_32, s81_33, s81_34, s81_37, s81_38, s81_41, s81_42, s81_43, s81_44, s81_47, s81_48, s81_51, s81_52, s81_55, s81_56, s81_57, s81_58, s81_59, s81_62, s81_63, s81_66, s81_67, s81_68, s81_69, s81_70, s81_73, s81_74, s81_75, s81_78, sx_push, tf, List.length_cons, List.length_nil, Option.some.injEq, exists_eq_left', Nat.reduceAdd, Nat.reduceLeDiff, true_and, and_true, true_or, or_true, Int.zero_add, Nat.zero_le, eq_self, ne_eq, not_true_eq_false, not_false_eq_true, false_implies, true_implies, implies_true, b2i_0, b2i_1, b2i_01, up_sc, sc_at, sc_sc, ite_true, ite_false, if_true, if_false, Nat.reduceEqDiff, reduceIte, ts ho, x82n hr hpr hO.2.2.1 hz p0 p1 hp (show -100 ≤ k by omega) (show k ≤ 1000 by omega), e]
    repeat' (first | intro _ | refine And.intro ?_ ?_)
    all_goals first | omega | exact this
  · simp only [if_neg e] at hK
    simp only [s81_0, s81_1, s81_4, s81_5, s81_6, s81_9, s81_10, s81_11, s81_14, s81_15, s81_18, s81_20, s81_23, s81_24, s81_27, s81_28, s81_31, s81_32, s81_33, s81_34, s81_37, s81_38, s81_41, s81_42, s81_43, s81_44, s81_47, s81_48, s81_51, s81_52, s81_55, s81_56, s81_57, s81_58, s81_59, s81_62, s81_63, s81_66, s81_67, s81_68, s81_69, s81_70, s81_73, s81_74, s81_75, s81_78, sx_push, tf, List.length_cons, List.length_nil, Option.some.injEq, exists_eq_left', Nat.reduceAdd, Nat.reduceLeDiff, true_and, and_true, true_or, or_true, Int.zero_add, Nat.zero_le, eq_self, ne_eq, not_true_eq_false, not_false_eq_true, false_implies, true_implies, implies_true, b2i_0, b2i_1, b2i_01, up_sc, sc_at, sc_sc, ite_true, ite_false, if_true, if_false, Nat.reduceEqDiff, reduceIte, ts ho, oq6 o, x82n hr hpr hO.2.2.1 hz p0 p1 hp (show -100 ≤ k by omega) (show k ≤ 1000 by omega), h8]
    repeat' (first | intro _ | refine And.intro ?_ ?_)
    all_goals first | omega | skip
    refine hK _ ?_ ?_ ?_ (fun j hj => ?_) ?_ ?_
    · exact fr_sc (fr_sc (fr_sc (fr_sc (fr_sc fr_rfl (by omega) (by omega)) (by omega) (by omega)) (by omega) (by omega)) (by omega) (by omega)) (by omega) (by omega)
    · simp [sc_at]
    · simp [sc_at]
    · simp only [sc_at, reduceIte]; rw [up1_n hj]
    · simp only [sc_at, reduceIte]; rw [up1_s, List.length_append]; simp
    · simp only [sc_at, oq6 o, if_true, if_false]
      refine rowsC_ap R 0 (rowsC_cg R 0 (fun j hj => ?_) hrow) ⟨⟨?_, ?_, ?_, ?_⟩, trivial⟩
      · rw [up1_n (by omega), up1_n (by omega), up1_n (by omega), up1_n (by omega)]; exact ⟨rfl, rfl, rfl, rfl⟩
      all_goals rw [Int.zero_add, up1_s]
theorem x80l (ho : isS o) (hO : invF f) (hz : rtP f) {x y z lg k b c : Int} (hx : in8 x) (hy : in8 y) (hz' : in8 z) (k0 : 1 ≤ k) (k1 : k ≤ 10) (hb : 0 ≤ b ∧ b < 40) : ∀ (m : Nat) (p : Int) (σ : sxS) (st : Int → Int) (R : List (Int × Int × Int × Int)), p + m = 40 → 0 ≤ p → rL σ 7 f → rP σ 7 f → sgn σ o lg → qC σ o f x y z st b c R → gI f (k - 1) st → R.length ≤ c2 st → (∀ σ', fr σ σ' o (o + 6) → σ' o 1 = σ o 1 → qC σ' o f x y z (ofS f x y z lg k b m p st) b c (R ++ ofR f x y z lg k b m p st) → K none (T0 n) σ') → Rn 80 2 [some (vR o), some (vI k), some (vI p)] [] (T0 n) σ K := by
  intro m
  induction m with
  | zero =>
    intro p σ st R hp p0 hr hpr hs hq hg hR hK
    rw [s80_2]
    simp only [s80_3, s80_5, s80_8, s80_9, s80_12, s80_13, s80_14, s80_17, s80_18, s80_21, s80_22, s80_25, s80_26, s80_27, s80_28, s80_29, s80_30, s80_31, s80_32, s80_33, s80_36, s80_37, s80_40, s80_41, s80_44, s80_45, s80_48, s80_49, s80_50, s80_51, s80_52, s80_53, s80_54, s80_57, s80_60, s80_63, sx_push, tf, List.length_cons, List.length_nil, Option.some.injEq, exists_eq_left', Nat.reduceAdd, Nat.reduceLeDiff, true_and, and_true, true_or, or_true, Int.zero_add, Nat.zero_le, eq_self, ne_eq, not_true_eq_false, not_false_eq_true, false_implies, true_implies, implies_true, b2i_0, b2i_1, b2i_01, up_sc, sc_at, sc_sc, ite_true, ite_false, if_true, if_false, Nat.reduceEqDiff, reduceIte]
    have := hK σ fr_rfl rfl (by show qC σ o f x y z st b c (R ++ []); rw [List.append_nil]; exact hq)
    repeat' (first | intro _ | refine And.intro ?_ ?_)
    all_goals first | omega | exact this
  | succ m ih =>
    intro p σ st R hp p0 hr hpr hs hq hg hR hK
    have p1 : p < 40 := by omega
    have ob := isS_in ho
    have pw := pw_in (k := k) (by omega) k1
    have hq' := hq
    obtain ⟨q1, q2, q3, q4, q5, q6⟩ := hq'
    have fp := farT_in hO.2.1 p0 p1 hx hy hz'
    have fb := farT_in hO.2.1 hb.1 hb.2 hx hy hz'
    rw [s80_2]
    unfold ofS ofR at hK
    by_cases e0 : st p = 1
    · obtain ⟨g1, g2⟩ := (q1 p p0 p1).1 e0
      have hfp : f p = 1 := by
        rcases hg p p0 p1 with z | z
        · omega
        · exact z.2.1
      by_cases e1 : ofC f x y z lg k p b = true
      · have e : st p = 1 ∧ ofC f x y z lg k p b = true := ⟨e0, e1⟩
        simp only [if_pos e] at hK
        have hl : (R.length : Int) ≤ 39 := by
          have := c2_le (up1 st p 2)
          have := c2_up (st := st) p0 p1 (by omega)
          omega
        have cu := c2_up (st := st) p0 p1 (by omega)
        have gu : gI f (k - 1) (up1 st p 2) := fun q a b => by
          by_cases e3 : q = p
          · subst e3; rw [up1_s]
            rcases hg q a b with z | z
            · omega
            · exact Or.inr ⟨Or.inr rfl, z.2⟩
          · rw [up1_n e3]; exact hg q a b
        have f1 : fr σ (sc σ (o + 2) (up1 (σ (o + 2)) p 0)) o (o + 6) := fr_sc fr_rfl (by omega) (by omega)
        have main : Rn 81 0 [some (vR o), some (vI p), some (vI k), none] [] (T0 n) (sc σ (o + 2) (up1 (σ (o + 2)) p 0)) (fun r T' σ' => Rn 80 57 [some (vR o), some (vI k), some (vI p)] (sx_push r []) T' σ' K) := by
          refine x81 ho hO hz (rL_fr f1 (by omega) hr) (rP_fr f1 (by omega) hpr) (R := R) p0 p1 hfp k0 k1 (by simp [sc_at]; exact q5) hl (by simp [sc_at]; exact q6) (fun σ' a1 a2 a3 a4 a5 a6 => ?_)
          have a2 : σ' (o + 1) = σ (o + 1) := by rw [a2]; simp [sc_at]
          have a3 : σ' (o + 2) = up1 (σ (o + 2)) p 0 := by rw [a3]; simp [sc_at]
          have a4 : ∀ j, j ≠ 8 → σ' o j = σ o j := fun j hj => by rw [a4 j hj]; simp [sc_at]
          rw [show sc σ (o + 2) (up1 (σ (o + 2)) p 0) (o + 1) p = farT f p x y z by simp [sc_at]; exact g2] at a5 a6
          simp only [s80_57, s80_60, sx_push, tf, List.length_cons, List.length_nil, Option.some.injEq, exists_eq_left', Nat.reduceAdd, Nat.reduceLeDiff, true_and, and_true, true_or, or_true, Int.zero_add, Nat.zero_le, eq_self, ne_eq, not_true_eq_false, not_false_eq_true, false_implies, true_implies, implies_true, b2i_0, b2i_1, b2i_01, up_sc, sc_at, sc_sc, ite_true, ite_false, if_true, if_false, Nat.reduceEqDiff, reduceIte]
          refine ⟨by omega, ?_⟩
          have qq : ∀ R', σ' o 8 = (R'.length : Int) → rowsC R' 0 (σ' (o + 3)) (σ' (o + 4)) (σ' (o + 5)) (σ' (o + 6)) → qC σ' o f x y z (up1 st p 2) b c R' := fun R' r1 r2 => by
            refine ⟨fun q x1 x2 => ?_, ?_, ?_, ?_, r1, r2⟩
            · rw [a2, a3]
              by_cases e2 : q = p
              · subst e2
                rw [up1_s, up1_s]
                exact ⟨fun z => absurd z (by decide), fun _ => rfl⟩
              · rw [up1_n e2, up1_n e2]; exact q1 q x1 x2
            · rw [a4 10 (by decide)]; exact q2
            · rw [a4 11 (by decide)]; exact q3
            · rw [a4 9 (by decide)]; exact q4
          have ff := fr_tr f1 a1
          have rl' := rL_fr ff (by omega) hr
          have rp' := rP_fr ff (by omega) hpr
          have sg' := sgn_fr hs (a4 1 (by decide))
          by_cases e4 : spN f p k = 0
          · simp only [if_pos e4] at a5 a6 hK
            exact ih (p + 1) σ' (up1 st p 2) R (by omega) (by omega) rl' rp' sg' (qq R a5 a6) gu (by omega) (fun σ2 d1 d2 d3 => hK σ2 (fr_tr ff d1) (d2.trans (a4 1 (by decide))) d3)
          · simp only [if_neg e4] at a5 a6 hK
            refine ih (p + 1) σ' (up1 st p 2) (R ++ [(p, k, farT f p x y z, spN f p k)]) (by omega) (by omega) rl' rp' sg' (qq _ a5 a6) gu ?_ (fun σ2 d1 d2 d3 => hK σ2 (fr_tr ff d1) (d2.trans (a4 1 (by decide))) ?_)
            · rw [List.length_append]; simp only [List.length_cons, List.length_nil]; omega
            · rw [List.append_assoc] at d3; exact d3
        unfold ofC at e1
        rcases hs with ⟨rfl, s1⟩ | ⟨rfl, s1⟩
        · rw [if_pos rfl, decide_eq_true_eq] at e1
          simp only [s80_3, s80_5, s80_8, s80_9, s80_12, s80_13, s80_14, s80_17, s80_18, s80_21, s80_22, s80_25, s80_26, s80_27, s80_28, s80_29, s80_30, s80_31, s80_32, s80_33, s80_36, s80_37, s80_40, s80_41, s80_44, s80_45, s80_48, s80_49, s80_50, s80_51, s80_52, s80_53, s80_54, Int.reduceToNat, Int.reducePow, Nat.reducePow, Int.reduceLE, Int.reduceLT, Int.reduceNeg, Int.reduceEq, Int.reduceNe, Int.reduceAdd, Int.reduceSub, Int.reduceMul, and_self, sx_push, tf, List.length_cons, List.length_nil, Option.some.injEq, exists_eq_left', Nat.reduceAdd, Nat.reduceLeDiff, true_and, and_true, true_or, or_true, Int.zero_add, Nat.zero_le, eq_self, ne_eq, not_true_eq_false, not_false_eq_true, false_implies, true_implies, implies_true, b2i_0, b2i_1, b2i_01, up_sc, sc_at, sc_sc, ite_true, ite_false, if_true, if_false, Nat.reduceEqDiff, reduceIte, ts ho, oq6 o, g1, g2, s1, q3, Int.one_mul]
          repeat' (first | intro _ | refine And.intro ?_ ?_)
          all_goals first | omega | contradiction | exact main
        · rw [if_neg (by decide), decide_eq_true_eq] at e1
          simp only [s80_3, s80_5, s80_8, s80_9, s80_12, s80_13, s80_14, s80_17, s80_18, s80_21, s80_22, s80_25, s80_26, s80_27, s80_28, s80_29, s80_30, s80_31, s80_32, s80_33, s80_36, s80_37, s80_40, s80_41, s80_44, s80_45, s80_48, s80_49, s80_50, s80_51, s80_52, s80_53, s80_54, Int.reduceToNat, Int.reducePow, Nat.reducePow, Int.reduceLE, Int.reduceLT, Int.reduceNeg, Int.reduceEq, Int.reduceNe, Int.reduceAdd, Int.reduceSub, Int.reduceMul, and_self, sx_push, tf, List.length_cons, List.length_nil, Option.some.injEq, exists_eq_left', Nat.reduceAdd, Nat.reduceLeDiff, true_and, and_true, true_or, or_true, Int.zero_add, Nat.zero_le, eq_self, ne_eq, not_true_eq_false, not_false_eq_true, false_implies, true_implies, implies_true, b2i_0, b2i_1, b2i_01, up_sc, sc_at, sc_sc, ite_true, ite_false, if_true, if_false, Nat.reduceEqDiff, reduceIte, ts ho, oq6 o, g1, g2, s1, q3, Int.one_mul]
          repeat' (first | intro _ | refine And.intro ?_ ?_)
          all_goals first | omega | contradiction | exact main
      · have e : ¬ (st p = 1 ∧ ofC f x y z lg k p b = true) := fun z => e1 z.2
        simp only [if_neg e] at hK
        have go : Rn 80 2 [some (vR o), some (vI k), some (vI (p + 1))] [] (T0 n) σ K := ih (p + 1) σ st R (by omega) (by omega) hr hpr hs hq hg hR hK
        unfold ofC at e1
        rcases hs with ⟨rfl, s1⟩ | ⟨rfl, s1⟩
        · rw [if_pos rfl, decide_eq_true_eq] at e1
          simp only [s80_3, s80_5, s80_8, s80_9, s80_12, s80_13, s80_14, s80_17, s80_18, s80_21, s80_22, s80_25, s80_26, s80_27, s80_28, s80_29, s80_30, s80_31, s80_32, s80_33, s80_36, s80_37, s80_40, s80_41, s80_57, s80_60, Int.reduceToNat, Int.reducePow, Nat.reducePow, Int.reduceLE, Int.reduceLT, Int.reduceNeg, Int.reduceEq, Int.reduceNe, Int.reduceAdd, Int.reduceSub, Int.reduceMul, and_self, sx_push, tf, List.length_cons, List.length_nil, Option.some.injEq, exists_eq_left', Nat.reduceAdd, Nat.reduceLeDiff, true_and, and_true, true_or, or_true, Int.zero_add, Nat.zero_le, eq_self, ne_eq, not_true_eq_false, not_false_eq_true, false_implies, true_implies, implies_true, b2i_0, b2i_1, b2i_01, up_sc, sc_at, sc_sc, ite_true, ite_false, if_true, if_false, Nat.reduceEqDiff, reduceIte, ts ho, oq6 o, g1, g2, s1, q3, Int.one_mul]
          repeat' (first | intro _ | refine And.intro ?_ ?_)
          all_goals first | omega | contradiction | exact go
        · rw [if_neg (by decide), decide_eq_true_eq] at e1
          simp only [s80_3, s80_5, s80_8, s80_9, s80_12, s80_13, s80_14, s80_17, s80_18, s80_21, s80_22, s80_25, s80_26, s80_27, s80_28, s80_29, s80_30, s80_31, s80_32, s80_33, s80_36, s80_37, s80_40, s80_41, s80_57, s80_60, Int.reduceToNat, Int.reducePow, Nat.reducePow, Int.reduceLE, Int.reduceLT, Int.reduceNeg, Int.reduceEq, Int.reduceNe, Int.reduceAdd, Int.reduceSub, Int.reduceMul, and_self, sx_push, tf, List.length_cons, List.length_nil, Option.some.injEq, exists_eq_left', Nat.reduceAdd, Nat.reduceLeDiff, true_and, and_true, true_or, or_true, Int.zero_add, Nat.zero_le, eq_self, ne_eq, not_true_eq_false, not_false_eq_true, false_implies, true_implies, implies_true, b2i_0, b2i_1, b2i_01, up_sc, sc_at, sc_sc, ite_true, ite_false, if_true, if_false, Nat.reduceEqDiff, reduceIte, ts ho, oq6 o, g1, g2, s1, q3, Int.one_mul]
          repeat' (first | intro _ | refine And.intro ?_ ?_)
          all_goals first | omega | contradiction | exact go
    · have e : ¬ (st p = 1 ∧ ofC f x y z lg k p b = true) := fun z => e0 z.1
      simp only [if_neg e] at hK
      have go : Rn 80 2 [some (vR o), some (vI k), some (vI (p + 1))] [] (T0 n) σ K := ih (p + 1) σ st R (by omega) (by omega) hr hpr hs hq hg hR hK
      simp only [s80_3, s80_5, s80_8, s80_9, s80_12, s80_13, s80_14, s80_57, s80_60, Int.reduceToNat, Int.reducePow, Nat.reducePow, Int.reduceLE, Int.reduceLT, Int.reduceNeg, Int.reduceEq, Int.reduceNe, Int.reduceAdd, Int.reduceSub, Int.reduceMul, and_self, sx_push, tf, List.length_cons, List.length_nil, Option.some.injEq, exists_eq_left', Nat.reduceAdd, Nat.reduceLeDiff, true_and, and_true, true_or, or_true, Int.zero_add, Nat.zero_le, eq_self, ne_eq, not_true_eq_false, not_false_eq_true, false_implies, true_implies, implies_true, b2i_0, b2i_1, b2i_01, up_sc, sc_at, sc_sc, ite_true, ite_false, if_true, if_false, Nat.reduceEqDiff, reduceIte, ts ho, (q1 p p0 p1).2 e0]
      repeat' (first | intro _ | refine And.intro ?_ ?_)
      all_goals first | omega | contradiction | exact go
end S5
