/-! searches: the calls seek and remote -/
theorem Rel_up2 {c d : Int} {σ σ' : sxS} (h : Rel c σ) (hk : ∀ k, ptc k → σ' k = σ k) (h4 : σ' 149 4 = σ 149 4) (h6 : σ' 149 6 = σ 149 6) (hT : relT (σ' 2 1) (σ' 3) (σ' 149) (σ' 154)) (hR : relR d (σ' 148) (σ' 155)) (hS : relS (σ' 1 11) (σ' 149)) (hF : relF (σ' 4) (σ' 149)) (hQ : relQ (σ' 119) (σ' 122) (σ' 123) (σ' 124) (σ' 125) (σ' 149) (σ' 161)) (hV : relV (σ' 141) (σ' 142) (σ' 143) (σ' 144) (σ' 149) (σ' 166) (σ' 167) (σ' 168)) (hI : relI (σ' 146) (σ' 147) (σ' 149) (σ' 169)) (hG : (σ' 119 1 = 1 ∧ σ' 126 1 = -1) ∧ (0 ≤ σ' 119 11 ∧ σ' 119 11 ≤ 765) ∧ 0 ≤ σ' 126 11 ∧ σ' 126 11 ≤ 765) : Rel d σ' := by
  obtain ⟨a1, a2, a3, a4, a5, a6, a7, a8, a9, a10, a11, a12, a13⟩ := h
  have q : ∀ k, ptc k → σ' k = σ k := hk
  unfold ptc at q
  refine ⟨?_, ?_, ?_, ?_, hT, hR, hS, hF, hQ, hV, hI, hG, ?_⟩
  · rw [q 150 (by omega)]; exact PT_cells (fun k k1 k2 => q k (by omega)) a1
  · rw [q 150 (by omega)]; exact a2
  · rw [q 150 (by omega), q 7 (by omega)]; unfold relM; rw [h6]; exact a3
  · exact relH_cg a4 (q 17 (by omega)) (fun k k1 k2 => q k (by omega)) (q 151 (by omega)) h4 h6
  · rw [q 156 (by omega)]; exact a13
section S6
variable {n : Nat} {c : Int} {σ : sxS} {K : Option sxV → sxT → sxS → Prop} {f : Int → Int} {o : Nat}
theorem x44 (ho : isS o) : Rn 44 0 [some (vR o)] [] (T0 n) σ K ↔ K none (T0 n) (sc σ o (up1 (up1 (up1 (σ o) 10 (-1)) 9 0) 8 0)) := by
  refine Rn_iff fun K hK => ?_
  simp only [s44_0, s44_1, s44_2, s44_5, s44_6, s44_7, s44_10, s44_11, s44_12, s44_15, sx_push, tf, List.length_cons, List.length_nil, Option.some.injEq, exists_eq_left', Nat.reduceAdd, Nat.reduceLeDiff, true_and, and_true, true_or, or_true, Int.zero_add, Nat.zero_le, eq_self, ne_eq, not_true_eq_false, not_false_eq_true, false_implies, true_implies, implies_true, b2i_0, b2i_1, b2i_01, up_sc, sc_at, sc_sc, ite_true, ite_false, if_true, if_false, Nat.reduceEqDiff, reduceIte, ts ho]
  exact hK
theorem x77a (ho : isS o) {w : Int} : ∀ (k : Nat) (i : Int), i + k = 40 → 0 ≤ i → Rn 77 25 [some (vR o), some (vI w), some (vI 40)] [] (T0 n) (sc σ (o + 2) (cpF (fun _ => 0) (σ (o + 2)) 40)) K → Rn 77 6 [some (vR o), some (vI w), some (vI i)] [] (T0 n) (sc σ (o + 2) (cpF (fun _ => 0) (σ (o + 2)) i)) K := by
  intro k
  induction k with
  | zero =>
    intro i hi h0 hK
    obtain rfl : i = 40 := by omega
    rw [s77_6]
    simp only [s77_7, s77_9, s77_12, s77_13, s77_16, s77_17, s77_18, s77_19, s77_22, sx_push, tf, List.length_cons, List.length_nil, Option.some.injEq, exists_eq_left', Nat.reduceAdd, Nat.reduceLeDiff, true_and, and_true, true_or, or_true, Int.zero_add, Nat.zero_le, eq_self, ne_eq, not_true_eq_false, not_false_eq_true, false_implies, true_implies, implies_true, b2i_0, b2i_1, b2i_01, up_sc, sc_at, sc_sc, ite_true, ite_false, if_true, if_false, Nat.reduceEqDiff, reduceIte]
    repeat' (first | intro _ | refine And.intro ?_ ?_)
    all_goals first | exact hK | omega
  | succ k ih =>
    intro i hi h0 hK
    rw [s77_6]
    simp only [s77_7, s77_9, s77_12, s77_13, s77_16, s77_17, s77_18, s77_19, s77_22, sx_push, tf, List.length_cons, List.length_nil, Option.some.injEq, exists_eq_left', Nat.reduceAdd, Nat.reduceLeDiff, true_and, and_true, true_or, or_true, Int.zero_add, Nat.zero_le, eq_self, ne_eq, not_true_eq_false, not_false_eq_true, false_implies, true_implies, implies_true, b2i_0, b2i_1, b2i_01, up_sc, sc_at, sc_sc, ite_true, ite_false, if_true, if_false, Nat.reduceEqDiff, reduceIte, ts ho, cpc_s h0]
    repeat' (first | intro _ | refine And.intro ?_ ?_)
    all_goals first | omega | exact ih _ (by omega) (by omega) hK
theorem x77l (ho : isS o) (hO : invF f) (hz : rtP f) {x y z lg : Int} (hx : in8 x) (hy : in8 y) (hz' : in8 z) : ∀ (m : Nat) (k : Int) (σ : sxS) (st : Int → Int) (b c : Int) (R : List (Int × Int × Int × Int)), k = m → k ≤ 10 → rL σ 7 f → rP σ 7 f → sgn σ o lg → qC σ o f x y z st b c R → gI f k st → (0 ≤ b ∧ b < 40 ∧ f b = 1) → R.length ≤ c2 st → 0 ≤ c → c + 40 * m ≤ 900 → (∀ (σ' : sxS) st', fr σ σ' o (o + 6) → σ' o 1 = σ o 1 → qC σ' o f x y z st' (srF f x y z lg m k st b c R).1 (srF f x y z lg m k st b c R).2.1 (srF f x y z lg m k st b c R).2.2 → K none (T0 n) σ') → Rn 77 40 [some (vR o), some (vI (pk x y z)), some (vI k)] [] (T0 n) σ K := by
  intro m
  induction m with
  | zero =>
    intro k σ st b c R hk k1 hr hpr hs hq hg hb hR hc hc' hK
    rw [s77_40]
    simp only [s77_41, s77_42, s77_64, sx_push, tf, List.length_cons, List.length_nil, Option.some.injEq, exists_eq_left', Nat.reduceAdd, Nat.reduceLeDiff, true_and, and_true, true_or, or_true, Int.zero_add, Nat.zero_le, eq_self, ne_eq, not_true_eq_false, not_false_eq_true, false_implies, true_implies, implies_true, b2i_0, b2i_1, b2i_01, up_sc, sc_at, sc_sc, ite_true, ite_false, if_true, if_false, Nat.reduceEqDiff, reduceIte]
    have := hK σ st fr_rfl rfl hq
    repeat' (first | intro _ | refine And.intro ?_ ?_)
    all_goals first | omega | exact this
  | succ m ih =>
    intro k σ st b c R hk k1 hr hpr hs hq hg hb hR hc hc' hK
    have ob := isS_in ho
    have ls := lkF_spec f hO.2.2.1 x y z lg k (by omega) k1 40 0 st b c (by omega) (by omega) (gI_w hg (by omega)) (fun q a b e => gI_z hg q a b e) hb
    rw [s77_40]
    simp only [s77_41, s77_42, s77_45, s77_46, s77_47, s77_48, s77_49, s77_50, sx_push, tf, List.length_cons, List.length_nil, Option.some.injEq, exists_eq_left', Nat.reduceAdd, Nat.reduceLeDiff, true_and, and_true, true_or, or_true, Int.zero_add, Nat.zero_le, eq_self, ne_eq, not_true_eq_false, not_false_eq_true, false_implies, true_implies, implies_true, b2i_0, b2i_1, b2i_01, up_sc, sc_at, sc_sc, ite_true, ite_false, if_true, if_false, Nat.reduceEqDiff, reduceIte, ts ho]
    refine ⟨fun _ => by omega, fun _ => ⟨by omega, ?_⟩⟩
    simp only [s79_0, s79_1, sx_push, tf, List.length_cons, List.length_nil, Option.some.injEq, exists_eq_left', Nat.reduceAdd, Nat.reduceLeDiff, true_and, and_true, true_or, or_true, Int.zero_add, Nat.zero_le, eq_self, ne_eq, not_true_eq_false, not_false_eq_true, false_implies, true_implies, implies_true, b2i_0, b2i_1, b2i_01, up_sc, sc_at, sc_sc, ite_true, ite_false, if_true, if_false, Nat.reduceEqDiff, reduceIte]
    refine x79l ho hO hx hy hz' (by omega) k1 40 0 σ st b c R _ (by omega) (by omega) hr hpr hs hq ⟨hb.1, hb.2.1⟩ hc (by omega) (fun σ1 a1 a2 a3 => ?_)
    unfold srF at hK
    generalize lkF f x y z lg k 40 0 st b c = L at *
    have os := of_spec f x y z lg k L.2.1 (k - 1) 40 0 L.1 (by omega) (by omega) ls.1
    simp only [s77_53, s77_54, s77_55, sx_push, tf, List.length_cons, List.length_nil, Option.some.injEq, exists_eq_left', Nat.reduceAdd, Nat.reduceLeDiff, true_and, and_true, true_or, or_true, Int.zero_add, Nat.zero_le, eq_self, ne_eq, not_true_eq_false, not_false_eq_true, false_implies, true_implies, implies_true, b2i_0, b2i_1, b2i_01, up_sc, sc_at, sc_sc, ite_true, ite_false, if_true, if_false, Nat.reduceEqDiff, reduceIte, ts ho]
    simp only [s80_0, s80_1, sx_push, tf, List.length_cons, List.length_nil, Option.some.injEq, exists_eq_left', Nat.reduceAdd, Nat.reduceLeDiff, true_and, and_true, true_or, or_true, Int.zero_add, Nat.zero_le, eq_self, ne_eq, not_true_eq_false, not_false_eq_true, false_implies, true_implies, implies_true, b2i_0, b2i_1, b2i_01, up_sc, sc_at, sc_sc, ite_true, ite_false, if_true, if_false, Nat.reduceEqDiff, reduceIte]
    refine x80l ho hO hz hx hy hz' (by omega) k1 ⟨ls.2.1.1, ls.2.1.2.1⟩ 40 0 σ1 L.1 R (by omega) (by omega) (rL_fr a1 (by omega) hr) (rP_fr a1 (by omega) hpr) (sgn_fr hs a2) a3 ls.1 (by have := ls.2.2.2; omega) (fun σ2 b1 b2 b3 => ?_)
    generalize ofS f x y z lg k L.2.1 40 0 L.1 = st2 at *
    generalize ofR f x y z lg k L.2.1 40 0 L.1 = R2 at *
    have e : k + -1 = k - 1 := by omega
    simp only [s77_58, s77_61, sx_push, tf, List.length_cons, List.length_nil, Option.some.injEq, exists_eq_left', Nat.reduceAdd, Nat.reduceLeDiff, true_and, and_true, true_or, or_true, Int.zero_add, Nat.zero_le, eq_self, ne_eq, not_true_eq_false, not_false_eq_true, false_implies, true_implies, implies_true, b2i_0, b2i_1, b2i_01, up_sc, sc_at, sc_sc, ite_true, ite_false, if_true, if_false, Nat.reduceEqDiff, reduceIte, e]
    have ff := fr_tr a1 b1
    refine ⟨by omega, ih (k - 1) σ2 st2 L.2.1 L.2.2 (R ++ R2) (by omega) (by omega) (rL_fr ff (by omega) hr) (rP_fr ff (by omega) hpr) (sgn_fr hs (b2.trans a2)) b3 os.1 ls.2.1 ?_ (by omega) (by omega) (fun σ' st' d1 d2 d3 => hK σ' st' (fr_tr ff d1) (d2.trans (b2.trans a2)) d3)⟩
    rw [List.length_append]
    have := ls.2.2.2
    omega
theorem x77 (ho : isS o) (hO : invF f) (hz : rtP f) {x y z lg : Int} (hx : in8 x) (hy : in8 y) (hz' : in8 z) (hr : rL σ 7 f) (hpr : rP σ 7 f) (hs : sgn σ o lg) (h75 : σ 7 5 = rootF f 40 0) (hrt : rootF f 40 0 ≠ -1) (hb : 0 ≤ σ o 11 ∧ σ o 11 ≤ 765) (hK : ∀ (σ' : sxS) st', fr σ σ' o (o + 6) → σ' o 1 = σ o 1 → qC σ' o f x y z st' (seekF f x y z lg).1 (seekF f x y z lg).2.1 (seekF f x y z lg).2.2 → K none (T0 n) σ') : Rn 77 0 [some (vR o), some (vI (pk x y z)), none] [] (T0 n) σ K := by
  have ob := isS_in ho
  have rn := root_n1 hO hrt
  generalize hS : seekF f x y z lg = S at *
  simp only [s77_0, s77_1, s77_4, s77_5, sx_push, tf, List.length_cons, List.length_nil, Option.some.injEq, exists_eq_left', Nat.reduceAdd, Nat.reduceLeDiff, true_and, and_true, true_or, or_true, Int.zero_add, Nat.zero_le, eq_self, ne_eq, not_true_eq_false, not_false_eq_true, false_implies, true_implies, implies_true, b2i_0, b2i_1, b2i_01, up_sc, sc_at, sc_sc, ite_true, ite_false, if_true, if_false, Nat.reduceEqDiff, reduceIte, ts ho, x44 ho]
  have main : Rn 77 25 [some (vR o), some (vI (pk x y z)), some (vI 40)] [] (T0 n) (sc (sc σ o (up1 (up1 (up1 (σ o) 10 (-1)) 9 0) 8 0)) (o + 2) (cpF (fun _ => 0) (sc σ o (up1 (up1 (up1 (σ o) 10 (-1)) 9 0) 8 0) (o + 2)) 40)) K := by
    have f1 : fr σ (sc (sc σ o (up1 (up1 (up1 (σ o) 10 (-1)) 9 0) 8 0)) (o + 2) (cpF (fun _ => 0) (sc σ o (up1 (up1 (up1 (σ o) 10 (-1)) 9 0) 8 0) (o + 2)) 40)) o (o + 6) := fr_sc (fr_sc fr_rfl (by omega) (by omega)) (by omega) (by omega)
    have g2 : ∀ p, 0 ≤ p → p < 40 → (sc (sc σ o (up1 (up1 (up1 (σ o) 10 (-1)) 9 0) 8 0)) (o + 2) (cpF (fun _ => 0) (sc σ o (up1 (up1 (up1 (σ o) 10 (-1)) 9 0) 8 0) (o + 2)) 40)) (o + 2) p = 0 := fun p a b => by
      rw [sc_at, if_pos rfl]; unfold cpF; rw [if_pos ⟨a, b⟩]
    have go : ∀ j, (sc (sc σ o (up1 (up1 (up1 (σ o) 10 (-1)) 9 0) 8 0)) (o + 2) (cpF (fun _ => 0) (sc σ o (up1 (up1 (up1 (σ o) 10 (-1)) 9 0) 8 0) (o + 2)) 40)) o j = up1 (up1 (up1 (σ o) 10 (-1)) 9 0) 8 0 j := fun j => by
      rw [sc_at, if_neg (by omega), sc_at, if_pos rfl]
    generalize sc (sc σ o (up1 (up1 (up1 (σ o) 10 (-1)) 9 0) 8 0)) (o + 2) (cpF (fun _ => 0) (sc σ o (up1 (up1 (up1 (σ o) 10 (-1)) 9 0) 8 0) (o + 2)) 40) = σ1 at *
    have r5 : σ1 7 5 = rootF f 40 0 := by rw [f1 7 (by omega)]; exact h75
    have o1 : σ1 o 1 = σ o 1 := by rw [go]; simp [up1]
    have o11 : σ1 o 11 = σ o 11 := by rw [go]; simp [up1]
    have o10 : σ1 o 10 = -1 := by rw [go]; simp [up1]
    have o9 : σ1 o 9 = 0 := by rw [go]; simp [up1]
    have o8 : σ1 o 8 = 0 := by rw [go]; simp [up1]
    have sg1 := sgn_fr hs o1
    simp only [s77_25, s77_26, s77_27, s77_30, s77_33, s77_34, sx_push, tf, List.length_cons, List.length_nil, Option.some.injEq, exists_eq_left', Nat.reduceAdd, Nat.reduceLeDiff, true_and, and_true, true_or, or_true, Int.zero_add, Nat.zero_le, eq_self, ne_eq, not_true_eq_false, not_false_eq_true, false_implies, true_implies, implies_true, b2i_0, b2i_1, b2i_01, up_sc, sc_at, sc_sc, ite_true, ite_false, if_true, if_false, Nat.reduceEqDiff, reduceIte, ts ho, r5]
    refine x78 ho (rL_fr f1 (by omega) hr) hO.2.1 sg1 hx hy hz' rn.1.1 rn.1.2 rn.2.1 (by omega) (by omega) (fun z => absurd o10 z) (fun σ2 a1 a2 a3 a4 a5 a6 a7 a8 => ?_)
    rw [if_pos (Or.inl o10)] at a7 a8
    simp only [s77_37, s77_39, sx_push, tf, List.length_cons, List.length_nil, Option.some.injEq, exists_eq_left', Nat.reduceAdd, Nat.reduceLeDiff, true_and, and_true, true_or, or_true, Int.zero_add, Nat.zero_le, eq_self, ne_eq, not_true_eq_false, not_false_eq_true, false_implies, true_implies, implies_true, b2i_0, b2i_1, b2i_01, up_sc, sc_at, sc_sc, ite_true, ite_false, if_true, if_false, Nat.reduceEqDiff, reduceIte]
    have ff := fr_tr f1 a1
    have c0 := c2_le (fun p => if p = rootF f 40 0 then 1 else 0)
    refine x77l ho hO hz hx hy hz' 10 10 σ2 (fun p => if p = rootF f 40 0 then 1 else 0) (rootF f 40 0) 1 [] (by omega) (by omega) (rL_fr ff (by omega) hr) (rP_fr ff (by omega) hpr) (sgn_fr sg1 (a5 1 (by decide))) ⟨fun p x1 x2 => ?_, a7, a8, ?_, ?_, trivial⟩ (gI_root rn) ⟨rn.1.1, rn.1.2, rn.2.1⟩ (by show ((0 : Nat) : Int) ≤ _; omega) (by omega) (by omega) (fun σ' st' b1 b2 b3 => ?_)
    · rw [a2, a3]
      by_cases e2 : p = rootF f 40 0
      · subst e2
        rw [up1_s, up1_s]
        simp only [if_true]
        exact ⟨fun _ => ⟨trivial, trivial⟩, fun z => absurd rfl z⟩
      · rw [up1_n e2, up1_n e2]
        simp only [if_neg e2]
        exact ⟨fun z => absurd z (by decide), fun _ => g2 p x1 x2⟩
    · rw [a6, o9]; rfl
    · rw [a5 8 (by decide), o8]; rfl
    · change qC σ' o f x y z st' (seekF f x y z lg).1 (seekF f x y z lg).2.1 (seekF f x y z lg).2.2 at b3
      rw [hS] at b3
      exact hK σ' st' (fr_tr ff b1) (b2.trans ((a5 1 (by decide)).trans o1)) b3
  have := x77a (σ := sc σ o (up1 (up1 (up1 (σ o) 10 (-1)) 9 0) 8 0)) ho 40 0 (by omega) (by omega) main
  rw [cpF_0, sc_id] at this
  exact this
theorem cl15 {x y z : Int} : call2 n c 76 225 [some (vR 1), some (vI x), some (vI y), some (vI z), none] [some (vR 149), some (vI x), some (vI y), some (vI z), none, none, none] := fun σ h => by
  have h' := h
  obtain ⟨hP, hO, hM, hH, hT, hR, hS, hF, hQ, hV, hI, hG, hW⟩ := h'
  by_cases e : rootF (σ 150) 40 0 = -1 ∨ ¬ ((0 ≤ x ∧ x ≤ 255) ∧ (0 ≤ y ∧ y ≤ 255) ∧ 0 ≤ z ∧ z ≤ 255)
  · have x76f : ∀ K : Option sxV → sxT → sxS → Prop, K (some (vI (-1))) (T0 n) σ → Rn 76 0 [some (vR 1), some (vI x), some (vI y), some (vI z), none] [] (T0 n) σ K := fun K hK => by
      simp only [s76_0, s76_1, s76_2, s76_3, s76_6, s76_8, s76_10, s76_11, s76_14, s76_15, s76_18, s76_21, s76_22, s76_25, s76_26, sx_push, tf, List.length_cons, List.length_nil, Option.some.injEq, exists_eq_left', Nat.reduceAdd, Nat.reduceLeDiff, true_and, and_true, true_or, or_true, Int.zero_add, Nat.zero_le, eq_self, ne_eq, not_true_eq_false, not_false_eq_true, false_implies, true_implies, implies_true, b2i_0, b2i_1, b2i_01, up_sc, sc_at, sc_sc, ite_true, ite_false, if_true, if_false, Nat.reduceEqDiff, reduceIte, x33, hP.1.2.2.1]
      by_cases e2 : (0 ≤ x ∧ x ≤ 255) ∧ (0 ≤ y ∧ y ≤ 255) ∧ 0 ≤ z ∧ z ≤ 255
      · repeat' (first | intro _ | refine And.intro ?_ ?_)
        all_goals first | exact hK | omega
      · have e3 : plc x y z = -1 := if_neg e2
        rw [e3]
        repeat' (first | intro _ | refine And.intro ?_ ?_)
        all_goals first | exact hK | omega
    refine x76f _ ⟨rfl, _, rfl, ?_⟩
    rw [x225f e]
    exact ⟨rfl, rfl, Rel_w h (by omega), rfl⟩
  · have er : rootF (σ 150) 40 0 ≠ -1 := fun z => e (Or.inl z)
    have ep : (0 ≤ x ∧ x ≤ 255) ∧ (0 ≤ y ∧ y ≤ 255) ∧ 0 ≤ z ∧ z ≤ 255 := Classical.not_not.mp (fun z => e (Or.inr z))
    have e3 : plc x y z = pk x y z := if_pos ep
    have pr := pk_rng ep.1 ep.2.1 ep.2.2
    have sp := seekF_spec hO.1 x y z 0 (root_n1 hO.1 er)
    simp only [s76_0, s76_1, s76_2, s76_3, s76_6, s76_8, s76_10, s76_11, s76_14, s76_15, s76_18, s76_21, s76_22, s76_25, s76_26, s76_27, s76_28, s76_31, s76_33, sx_push, tf, List.length_cons, List.length_nil, Option.some.injEq, exists_eq_left', Nat.reduceAdd, Nat.reduceLeDiff, true_and, and_true, true_or, or_true, Int.zero_add, Nat.zero_le, eq_self, ne_eq, not_true_eq_false, not_false_eq_true, false_implies, true_implies, implies_true, b2i_0, b2i_1, b2i_01, up_sc, sc_at, sc_sc, ite_true, ite_false, if_true, if_false, Nat.reduceEqDiff, reduceIte, x33, e3, hP.1.2.2.1]
    repeat' (first | intro _ | refine And.intro ?_ ?_)
    all_goals first | omega | skip
    refine x77 (lg := 0) (Or.inl rfl) hO.1 hO.2.1 ep.1 ep.2.1 ep.2.2 hP.1.1 hP.1.2.1 (Or.inl ⟨rfl, hG.1.1⟩) hP.1.2.2.1 er hG.2.1 (fun σ1 st' a1 a2 a3 => ?_)
    obtain ⟨q1, q2, q3, q4, q5, q6⟩ := a3
    simp only [s76_36, s76_37, s76_40, s76_43, sx_push, tf, List.length_cons, List.length_nil, Option.some.injEq, exists_eq_left', Nat.reduceAdd, Nat.reduceLeDiff, true_and, and_true, true_or, or_true, Int.zero_add, Nat.zero_le, eq_self, ne_eq, not_true_eq_false, not_false_eq_true, false_implies, true_implies, implies_true, b2i_0, b2i_1, b2i_01, up_sc, sc_at, sc_sc, ite_true, ite_false, if_true, if_false, Nat.reduceEqDiff, reduceIte, q2]
    refine ⟨_, rfl, ?_⟩
    have g150 : σ1 150 = σ 150 := a1 150 (by omega)
    refine x225 (by rw [g150]; exact hO.1) (by rw [g150]; exact hO.2.1) ep.1 ep.2.1 ep.2.2 (by rw [g150]; exact er) (fun σ2 b1 b2 b3 b4 b5 b6 b7 => ?_)
    rw [g150] at b3 b4 b5 b6 b7 ⊢
    generalize seekF (σ 150) x y z 0 = S at *
    have fb := farT_in hO.1.2.1 sp.1.1.1 sp.1.1.2 ep.1 ep.2.1 ep.2.2
    have g149 : ∀ j, (j < 24 ∨ 30 < j) → σ2 149 j = σ 149 j := fun j hj => by rw [b1.2 j hj, a1 149 (by omega)]
    have gk : ∀ k, (k < 119 ∨ 125 < k) → k ≠ 149 → k ≠ 160 → k ≠ 161 → σ2 k = σ k := fun k k1 k2 k3 k4 => by rw [b1.1 k k2 k3 k4, a1 k (by omega)]
    have gc : ∀ k, k < 149 → σ2 k = σ1 k := fun k k1 => b1.1 k (by omega) (by omega) (by omega)
    refine ⟨rfl, rfl, ?_, gk 0 (by omega) (by omega) (by omega) (by omega)⟩
    refine Rel_up2 h (fun k hk => ?_) (g149 4 (by omega)) (g149 6 (by omega)) ?_ ?_ ?_ ?_ ?_ ?_ ?_ ?_
    · unfold ptc at hk; exact gk k (by omega) (by omega) (by omega) (by omega)
    · rw [gk 2 (by omega) (by omega) (by omega) (by omega), gk 3 (by omega) (by omega) (by omega) (by omega), gk 154 (by omega) (by omega) (by omega) (by omega)]; unfold relT; rw [g149 8 (by omega)]; exact hT
    · rw [gk 148 (by omega) (by omega) (by omega) (by omega), gk 155 (by omega) (by omega) (by omega) (by omega)]; exact relR_w hR (by omega)
    · rw [gk 1 (by omega) (by omega) (by omega) (by omega)]; unfold relS; rw [g149 5 (by omega)]; exact hS
    · rw [gk 4 (by omega) (by omega) (by omega) (by omega)]; unfold relF; rw [g149 10 (by omega), g149 11 (by omega)]; exact hF
    · rw [gc 119 (by omega), gc 122 (by omega), gc 123 (by omega), gc 124 (by omega), gc 125 (by omega)]
      refine ⟨by rw [q5, b5], by rw [b5]; omega, Or.inr ⟨b2, by rw [q2]; omega, by rw [q3, b3], by rw [q4, b4], ?_⟩, fun k k0 k1 => ?_⟩
      · rw [b5, b6]
        have := sum_tot S.2.2 0 0 q6
        rw [Int.zero_add] at this
        rw [show ((S.2.2.length : Int)).toNat = S.2.2.length by omega]
        exact this
      · rw [b5] at k1
        exact rows_eq S.2.2 0 k sp.2.1 q6 b7 k0 (by omega)
    · rw [gk 141 (by omega) (by omega) (by omega) (by omega), gk 142 (by omega) (by omega) (by omega) (by omega), gk 143 (by omega) (by omega) (by omega) (by omega), gk 144 (by omega) (by omega) (by omega) (by omega), gk 166 (by omega) (by omega) (by omega) (by omega), gk 167 (by omega) (by omega) (by omega) (by omega), gk 168 (by omega) (by omega) (by omega) (by omega)]; unfold relV; rw [g149 36 (by omega)]; exact hV
    · rw [gk 146 (by omega) (by omega) (by omega) (by omega), gk 147 (by omega) (by omega) (by omega) (by omega), gk 169 (by omega) (by omega) (by omega) (by omega)]; unfold relI; rw [g149 41 (by omega)]; exact hI
    · rw [gc 119 (by omega), gk 126 (by omega) (by omega) (by omega) (by omega), a2, q3]
      exact ⟨hG.1, by omega, hG.2.2⟩
theorem cl21 {x y z w : Int} : call2 n c 97 237 [some (vR 1), some (vI x), some (vI y), some (vI z), some (vI w), none] [some (vR 149), some (vI x), some (vI y), some (vI z), some (vI w), none, none, none] := fun σ h => by
  have h' := h
  obtain ⟨hP, hO, hM, hH, hT, hR, hS, hF, hQ, hV, hI, hG, hW⟩ := h'
  by_cases e : rootF (σ 150) 40 0 = -1 ∨ ¬ ((0 ≤ x ∧ x ≤ 255) ∧ (0 ≤ y ∧ y ≤ 255) ∧ 0 ≤ z ∧ z ≤ 255)
  · have x97f : ∀ K : Option sxV → sxT → sxS → Prop, K (some (vI (-1))) (T0 n) σ → Rn 97 0 [some (vR 1), some (vI x), some (vI y), some (vI z), some (vI w), none] [] (T0 n) σ K := fun K hK => by
      simp only [s97_0, s97_1, s97_2, s97_3, s97_6, s97_8, s97_10, s97_11, s97_14, s97_15, s97_18, s97_21, s97_22, s97_25, s97_26, sx_push, tf, List.length_cons, List.length_nil, Option.some.injEq, exists_eq_left', Nat.reduceAdd, Nat.reduceLeDiff, true_and, and_true, true_or, or_true, Int.zero_add, Nat.zero_le, eq_self, ne_eq, not_true_eq_false, not_false_eq_true, false_implies, true_implies, implies_true, b2i_0, b2i_1, b2i_01, up_sc, sc_at, sc_sc, ite_true, ite_false, if_true, if_false, Nat.reduceEqDiff, reduceIte, x33, hP.1.2.2.1]
      by_cases e2 : (0 ≤ x ∧ x ≤ 255) ∧ (0 ≤ y ∧ y ≤ 255) ∧ 0 ≤ z ∧ z ≤ 255
      · repeat' (first | intro _ | refine And.intro ?_ ?_)
        all_goals first | exact hK | omega
      · have e3 : plc x y z = -1 := if_neg e2
        rw [e3]
        repeat' (first | intro _ | refine And.intro ?_ ?_)
        all_goals first | exact hK | omega
    refine x97f _ ⟨rfl, _, rfl, ?_⟩
    rw [x237f (by rcases e with e | e; exact Or.inl e; exact Or.inr (Or.inl e))]
    exact ⟨rfl, rfl, Rel_w h (by omega), rfl⟩
  · have er : rootF (σ 150) 40 0 ≠ -1 := fun z => e (Or.inl z)
    have ep : (0 ≤ x ∧ x ≤ 255) ∧ (0 ≤ y ∧ y ≤ 255) ∧ 0 ≤ z ∧ z ≤ 255 := Classical.not_not.mp (fun z => e (Or.inr z))
    have e3 : plc x y z = pk x y z := if_pos ep
    have pr := pk_rng ep.1 ep.2.1 ep.2.2
    have sp := seekF_spec hO.1 x y z 1 (root_n1 hO.1 er)
    simp only [s97_0, s97_1, s97_2, s97_3, s97_6, s97_8, s97_10, s97_11, s97_14, s97_15, s97_18, s97_21, s97_22, s97_25, s97_26, s97_27, s97_28, s97_31, s97_33, sx_push, tf, List.length_cons, List.length_nil, Option.some.injEq, exists_eq_left', Nat.reduceAdd, Nat.reduceLeDiff, true_and, and_true, true_or, or_true, Int.zero_add, Nat.zero_le, eq_self, ne_eq, not_true_eq_false, not_false_eq_true, false_implies, true_implies, implies_true, b2i_0, b2i_1, b2i_01, up_sc, sc_at, sc_sc, ite_true, ite_false, if_true, if_false, Nat.reduceEqDiff, reduceIte, x33, e3, hP.1.2.2.1]
    repeat' (first | intro _ | refine And.intro ?_ ?_)
    all_goals first | omega | skip
    refine x77 (lg := 1) (Or.inr rfl) hO.1 hO.2.1 ep.1 ep.2.1 ep.2.2 hP.1.1 hP.1.2.1 (Or.inr ⟨rfl, hG.1.2⟩) hP.1.2.2.1 er hG.2.2 (fun σ1 st' a1 a2 a3 => ?_)
    obtain ⟨q1, q2, q3, q4, q5, q6⟩ := a3
    have g150 : σ1 150 = σ 150 := a1 150 (by omega)
    have fb := farT_in hO.1.2.1 sp.1.1.1 sp.1.1.2 ep.1 ep.2.1 ep.2.2
    have fin : ∀ v, v = (if 0 ≤ w ∧ w ≤ 2 then remS2 (σ 150) x y z w (seekF (σ 150) x y z 1) else -1) → ∃ v', vI v = vI v' ∧ Rn 237 0 [some (vR 149), some (vI x), some (vI y), some (vI z), some (vI w), none, none, none] [] (T0 n) σ1 (fun r2 T2 σ3 => T2 = T0 n ∧ r2 = some (vI v') ∧ Rel (c + 1) σ3 ∧ σ3 0 = σ 0) := fun v hv => by
      refine ⟨v, rfl, ?_⟩
      have key : ∀ σ2 : sxS, qG σ1 σ2 → Rel (c + 1) σ2 ∧ σ2 0 = σ 0 := fun σ2 b1 => by
        have gk : ∀ k, (k < 126 ∨ 132 < k) → k ≠ 149 → k ≠ 160 → σ2 k = σ k := fun k k1 k2 k3 => by rw [b1.1 k k2 k3, a1 k (by omega)]
        have g149 : ∀ j, (j < 24 ∨ 25 < j) → σ2 149 j = σ 149 j := fun j hj => by rw [b1.2 j (by omega) (by omega), a1 149 (by omega)]
        refine ⟨Rel_up2 h (fun k hk => ?_) (g149 4 (by omega)) (g149 6 (by omega)) ?_ ?_ ?_ ?_ ?_ ?_ ?_ ?_, gk 0 (by omega) (by omega) (by omega)⟩
        · unfold ptc at hk; exact gk k (by omega) (by omega) (by omega)
        · rw [gk 2 (by omega) (by omega) (by omega), gk 3 (by omega) (by omega) (by omega), gk 154 (by omega) (by omega) (by omega)]; unfold relT; rw [g149 8 (by omega)]; exact hT
        · rw [gk 148 (by omega) (by omega) (by omega), gk 155 (by omega) (by omega) (by omega)]; exact relR_w hR (by omega)
        · rw [gk 1 (by omega) (by omega) (by omega)]; unfold relS; rw [g149 5 (by omega)]; exact hS
        · rw [gk 4 (by omega) (by omega) (by omega)]; unfold relF; rw [g149 10 (by omega), g149 11 (by omega)]; exact hF
        · rw [gk 119 (by omega) (by omega) (by omega), gk 122 (by omega) (by omega) (by omega), gk 123 (by omega) (by omega) (by omega), gk 124 (by omega) (by omega) (by omega), gk 125 (by omega) (by omega) (by omega), gk 161 (by omega) (by omega) (by omega)]; unfold relQ; rw [g149 26 (by omega), g149 27 (by omega), g149 28 (by omega), g149 29 (by omega), g149 30 (by omega)]; exact hQ
        · rw [gk 141 (by omega) (by omega) (by omega), gk 142 (by omega) (by omega) (by omega), gk 143 (by omega) (by omega) (by omega), gk 144 (by omega) (by omega) (by omega), gk 166 (by omega) (by omega) (by omega), gk 167 (by omega) (by omega) (by omega), gk 168 (by omega) (by omega) (by omega)]; unfold relV; rw [g149 36 (by omega)]; exact hV
        · rw [gk 146 (by omega) (by omega) (by omega), gk 147 (by omega) (by omega) (by omega), gk 169 (by omega) (by omega) (by omega)]; unfold relI; rw [g149 41 (by omega)]; exact hI
        · rw [gk 119 (by omega) (by omega) (by omega), b1.1 126 (by omega) (by omega), a2, q3]
          exact ⟨hG.1, hG.2.1, by omega⟩
      by_cases e2 : 0 ≤ w ∧ w ≤ 2
      · rw [if_pos e2] at hv
        refine x237 (by rw [g150]; exact hO.1) ep.1 ep.2.1 ep.2.2 (by rw [g150]; exact er) e2 (fun σ2 b1 => ?_)
        rw [g150, ← hv]
        exact ⟨rfl, rfl, key σ2 b1⟩
      · rw [if_neg e2] at hv
        rw [x237f (Or.inr (Or.inr e2)), hv]
        exact ⟨rfl, rfl, key σ1 qG_rfl⟩
    unfold remS2 at fin
    generalize seekF (σ 150) x y z 1 = S at *
    simp only [s97_36, s97_38, s97_64, s97_65, s97_68, s97_71, s97_72, s97_73, s97_76, s97_79, s97_80, s97_81, s97_84, s97_87, s97_88, s97_89, sx_push, tf, List.length_cons, List.length_nil, Option.some.injEq, exists_eq_left', Nat.reduceAdd, Nat.reduceLeDiff, true_and, and_true, true_or, or_true, Int.zero_add, Nat.zero_le, eq_self, ne_eq, not_true_eq_false, not_false_eq_true, false_implies, true_implies, implies_true, b2i_0, b2i_1, b2i_01, up_sc, sc_at, sc_sc, ite_true, ite_false, if_true, if_false, Nat.reduceEqDiff, reduceIte, sx_sw, q2, q3, q4]
    repeat' (first | intro _ | refine And.intro ?_ ?_)
    all_goals first | (refine fin _ ?_; (repeat' split) <;> first | rfl | assumption | omega) | omega
end S6
