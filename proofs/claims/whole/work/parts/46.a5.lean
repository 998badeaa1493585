/-! lay; what would be: comes, goes, anew -/
section A5
variable {n : Nat} {c : Int} {σ : sxS} {K : Option sxV → sxT → sxS → Prop}
/-- how many have another level (w = 160) or parent (w = 200) -/
def othF (f h : Int → Int) (w : Int) : Int := cnt (fun p => decide (h p = 1 ∧ h (w + p) ≠ f (w + p))) 40 0 0
theorem oth_i {f h A B C D : Int → Int} {w : Int} (hA : ∀ p, 0 ≤ p → p < 40 → (f p = 1 ∧ A p = f (160 + p) ∧ 0 ≤ f (160 + p)) ∨ (f p = 0 ∧ A p < 0)) (hB : ∀ p, 0 ≤ p → p < 40 → (h p = 1 ∧ B p = h (160 + p) ∧ 0 ≤ h (160 + p)) ∨ (h p = 0 ∧ B p < 0)) (hfh : ∀ p, 0 ≤ p → p < 40 → h p = 1 → f p = 1) (hC : ∀ p, 0 ≤ p → p < 40 → f p = 1 → C p = f (w + p)) (hD : ∀ p, 0 ≤ p → p < 40 → h p = 1 → D p = h (w + p)) (q : Int) (q0 : 0 ≤ q) (q1 : q < 40) : (0 ≤ A q ∧ 0 ≤ B q ∧ ¬ C q = D q) ↔ (h q = 1 ∧ h (w + q) ≠ f (w + q)) := by
  have a := hA q q0 (by omega)
  have b := hB q q0 (by omega)
  have z := hfh q q0 (by omega)
  have cc := hC q q0 (by omega)
  have dd := hD q q0 (by omega)
  constructor
  · rintro ⟨x1, x2, x3⟩
    rcases b with ⟨b1, b2, b3⟩ | ⟨b1, b2⟩
    · refine ⟨b1, fun y => x3 ?_⟩
      rw [cc (z b1), dd b1, y]
    · omega
  · rintro ⟨x1, x2⟩
    have x3 := z x1
    refine ⟨by omega, by omega, fun y => x2 ?_⟩
    rw [← cc x3, ← dd x1, y]
theorem cnt_oth {f h : Int → Int} {w : Int} {c : Int → Bool} (hc : ∀ q, 0 ≤ q → q < 40 → (c q = true ↔ (h q = 1 ∧ h (w + q) ≠ f (w + q)))) : cnt c 40 0 0 = othF f h w := by
  unfold othF
  refine cnt_congr 40 0 0 (fun q q0 q1 => ?_)
  rw [Bool.eq_iff_iff, decide_eq_true_eq]
  exact hc q q0 (by omega)
theorem K_ans {K : Option sxV → sxT → sxS → Prop} {T : sxT} {σ : sxS} {a b : Int} (h : a = b) (hk : K (some (vI b)) T σ) : K (some (vI a)) T σ := h ▸ hk
theorem rL_w {o : Nat} {f : Int → Int} (h : rL σ o f) : ∀ p, 0 ≤ p → p < 40 → (f p = 1 ∧ σ (o + 2) p = f (160 + p) ∧ 0 ≤ f (160 + p)) ∨ (f p = 0 ∧ σ (o + 2) p < 0) := fun p a b => by
  rcases h p a b with ⟨c1, c2, c3, c4, c5, c6⟩ | z
  · exact Or.inl ⟨c1, c2, c3⟩
  · exact Or.inr z
theorem rL_v {o : Nat} {f : Int → Int} (h : rL σ o f) : ∀ p, 0 ≤ p → p < 40 → f p = 1 → σ (o + 2) p = f (160 + p) := fun p a b hp => by
  rcases h p a b with ⟨c1, c2, c3, c4, c5, c6⟩ | z
  · exact c2
  · omega
theorem x260k {σ : sxS} (hw : wfc (σ 150)) (hK : ∀ σ', σ' 150 = anewF (σ 150) → (∀ k, k ≠ 150 → k ≠ 153 → σ' k = σ k) → K none (T0 n) σ') : Rn 260 0 [some (vR 149), none] [] (T0 n) σ K := by
  rw [x260 hw]
  generalize anewF (σ 150) = A at *
  refine hK _ ?_ (fun k k1 k2 => ?_)
  · rw [sc_at, if_neg (by decide), sc_at, if_pos rfl]
  · rw [sc_at, if_neg k2, sc_at, if_neg k1]
theorem x274t (hw : wfc (σ 150)) (u0 : 0 ≤ σ 149 4) (u1 : σ 149 4 ≤ 20) (h : rootF (σ 150) 40 0 ≠ -1) (hK : ∀ σ', (∀ k, (k < 149 ∨ 153 < k) → σ' k = σ k) → σ' 149 = up1 (σ 149) 4 (if σ 149 4 = 20 then 20 else σ 149 4 + 1) → σ' 150 = anewF (σ 150) → σ' 151 = keptF (σ 151) (σ 150) (σ 149 4) → K (some (vI (othF (σ 150) (anewF (σ 150)) 160))) (T0 n) σ') : Rn 274 0 [some (vR 149)] [] (T0 n) σ K := by
  simp only [s274_0, s274_1, s274_4, s274_5, s274_8, s274_9, s274_10, s274_13, s274_14, s274_15, sx_push, tf, List.length_cons, List.length_nil, Option.some.injEq, exists_eq_left', Nat.reduceAdd, Nat.reduceLeDiff, true_and, and_true, true_or, or_true, Int.zero_add, Nat.zero_le, eq_self, ne_eq, not_true_eq_false, not_false_eq_true, false_implies, true_implies, implies_true, b2i_0, b2i_1, b2i_01, up_sc, sc_at, sc_sc, ite_true, ite_false, if_true, if_false, Nat.reduceEqDiff, reduceIte, x203]
  refine ⟨fun _ => ?_, fun z => absurd z h⟩
  rw [x268 u0 u1]
  simp only [s274_18, s274_19, s274_22, s274_23, sx_push, tf, List.length_cons, List.length_nil, Option.some.injEq, exists_eq_left', Nat.reduceAdd, Nat.reduceLeDiff, true_and, and_true, true_or, or_true, Int.zero_add, Nat.zero_le, eq_self, ne_eq, not_true_eq_false, not_false_eq_true, false_implies, true_implies, implies_true, b2i_0, b2i_1, b2i_01, up_sc, sc_at, sc_sc, ite_true, ite_false, if_true, if_false, Nat.reduceEqDiff, reduceIte, x253]
  refine x260k (by simp [sc_at]; exact hw) (fun σ1 a1 a2 => ?_)
  have e150 : sc (sc (sc σ 151 (keptF (σ 151) (σ 150) (σ 149 4))) 149 (up1 (σ 149) 4 (if σ 149 4 = 20 then 20 else σ 149 4 + 1))) 152 (cpF (σ 150) (σ 152) 481) 150 = σ 150 := by simp [sc_at]
  rw [e150] at a1
  have e152 : σ1 152 = cpF (σ 150) (σ 152) 481 := by rw [a2 152 (by decide) (by decide)]; simp [sc_at]
  generalize anewF (σ 150) = A at *
  simp only [s274_26, s274_27, s274_30, s274_33, sx_push, tf, List.length_cons, List.length_nil, Option.some.injEq, exists_eq_left', Nat.reduceAdd, Nat.reduceLeDiff, true_and, and_true, true_or, or_true, Int.zero_add, Nat.zero_le, eq_self, ne_eq, not_true_eq_false, not_false_eq_true, false_implies, true_implies, implies_true, b2i_0, b2i_1, b2i_01, up_sc, sc_at, sc_sc, ite_true, ite_false, if_true, if_false, Nat.reduceEqDiff, reduceIte, x257 (w := 160) (Or.inl rfl)]
  refine K_ans (cnt_oth (fun q q0 q1 => ?_)) (hK σ1 (fun k hk => ?_) ?_ a1 ?_)
  · rw [decide_eq_true_eq, a1, e152]
    unfold cpF
    rw [if_pos (by omega)]
  · rw [a2 k (by omega) (by omega)]; simp only [sc_at]; rw [if_neg (by omega), if_neg (by omega), if_neg (by omega)]
  · rw [a2 149 (by decide) (by decide)]; simp [sc_at]
  · rw [a2 151 (by decide) (by decide)]; simp [sc_at]
theorem cl39 (hc : c < 100000) : call2 n c 148 274 [some (vR 1)] [some (vR 149)] := fun σ h => by
  have h' := h
  obtain ⟨hP, hO, hM, hH, hT, hR, hS, hF, hQ, hV, hI, hG, hW⟩ := h'
  have rr := Rel_r h hc (w := 3) (by omega) (by omega)
  have ki := keep_in h
  by_cases e : rootF (σ 150) 40 0 = -1
  · have c0 : cntF (σ 150) 40 0 0 = 0 := by
      rw [cntF_congr (g := fun _ => 0) 40 0 0 (fun q a b => by rcases hO.1.1 q a (by omega) with z | z; exact z; exact absurd z (root_m1 hO.1 e q a (by omega)))]
      rfl
    have x148f : ∀ K : Option sxV → sxT → sxS → Prop, K (some (vI (-1))) (T0 n) (sc σ 148 (up1 (σ 148) 3 (σ 148 3 + 1))) → Rn 148 0 [some (vR 1)] [] (T0 n) σ K := fun K hK => by
      simp only [s148_0, s148_1, s148_4, s148_7, s148_10, s148_11, s148_12, s148_15, sx_push, tf, List.length_cons, List.length_nil, Option.some.injEq, exists_eq_left', Nat.reduceAdd, Nat.reduceLeDiff, true_and, and_true, true_or, or_true, Int.zero_add, Nat.zero_le, eq_self, ne_eq, not_true_eq_false, not_false_eq_true, false_implies, true_implies, implies_true, b2i_0, b2i_1, b2i_01, up_sc, sc_at, sc_sc, ite_true, ite_false, if_true, if_false, Nat.reduceEqDiff, reduceIte, hP.1.2.2.2, c0, x12 (n := n) (show (0 : Int) ≤ 3 by omega) (show (3 : Int) < 6 by omega) rr.1]
      repeat' (first | intro _ | refine And.intro ?_ ?_)
      all_goals first | exact hK | omega | contradiction
    refine x148f _ ⟨rfl, _, rfl, ?_⟩
    rw [x274f (by simpa [sc_at] using rr.2) (by simpa [sc_at] using e)]
    refine ⟨rfl, rfl, ?_, by simp [sc_at]⟩
    have := Rel_ref h (w := 3) (by omega) (by omega)
    simpa [sc_at] using this
  · have rn := root_n1 hO.1 e
    have m := Rel_mp h rn.1.1 rn.1.2 rn.2.1
    have c0 : cntF (σ 150) 40 0 0 ≠ 0 := by
      have := cntF_in hO.1.1 40 0 0 (by omega) (by omega)
      rw [cntF_one (f := up1 (σ 150) (rootF (σ 150) 40 0) 0) (g := σ 150) (r := rootF (σ 150) 40 0) (d := 1) (by rw [up1_s, rn.2.1]; rfl) 40 0 0 rn.1.1 (by omega) (fun q q0 q1 z => by rw [up1_n z])]
      have t : th01 (up1 (σ 150) (rootF (σ 150) 40 0) 0) := fun p p0 p1 => by
        by_cases z : p = rootF (σ 150) 40 0
        · rw [z, up1_s]; exact Or.inl rfl
        · rw [up1_n z]; exact hO.1.1 p p0 p1
      have := cntF_in t 40 0 0 (by omega) (by omega)
      omega
    simp only [s148_0, s148_1, s148_4, s148_7, s148_10, s148_11, s148_12, s148_15, s148_16, s148_17, s148_20, s148_21, s148_24, sx_push, tf, List.length_cons, List.length_nil, Option.some.injEq, exists_eq_left', Nat.reduceAdd, Nat.reduceLeDiff, true_and, and_true, true_or, or_true, Int.zero_add, Nat.zero_le, eq_self, ne_eq, not_true_eq_false, not_false_eq_true, false_implies, true_implies, implies_true, b2i_0, b2i_1, b2i_01, up_sc, sc_at, sc_sc, ite_true, ite_false, if_true, if_false, Nat.reduceEqDiff, reduceIte, hP.1.2.2.2]
    refine ⟨fun _ => ?_, fun z => absurd z c0⟩
    refine x142 ki.1.1 ki.1.2 ki.2.1 (fun σ1 a1 a2 a3 a4 => ?_)
    have hP1 := kp_PT a1 hP
    simp only [s148_27, s148_28, s148_31, s148_32, s148_35, sx_push, tf, List.length_cons, List.length_nil, Option.some.injEq, exists_eq_left', Nat.reduceAdd, Nat.reduceLeDiff, true_and, and_true, true_or, or_true, Int.zero_add, Nat.zero_le, eq_self, ne_eq, not_true_eq_false, not_false_eq_true, false_implies, true_implies, implies_true, b2i_0, b2i_1, b2i_01, up_sc, sc_at, sc_sc, ite_true, ite_false, if_true, if_false, Nat.reduceEqDiff, reduceIte, tp isP12]
    refine x125 isP12 isP7 (by omega) (fun σ2 b1 b2 => ?_)
    have hPt := PT_cpd b2 hP1
    have hP2 : PT σ2 7 (σ 150) := PT_cells (fun k k1 k2 => b1 k (by omega)) hP1
    simp only [s148_38, s148_39, s148_42, sx_push, tf, List.length_cons, List.length_nil, Option.some.injEq, exists_eq_left', Nat.reduceAdd, Nat.reduceLeDiff, true_and, and_true, true_or, or_true, Int.zero_add, Nat.zero_le, eq_self, ne_eq, not_true_eq_false, not_false_eq_true, false_implies, true_implies, implies_true, b2i_0, b2i_1, b2i_01, up_sc, sc_at, sc_sc, ite_true, ite_false, if_true, if_false, Nat.reduceEqDiff, reduceIte]
    refine x130 isP7 hP2.1 hO.1 hP2.2.1 (fun σ3 d1 d2 d3 d4 d5 => ?_)
    have hPt3 : PT σ3 12 (σ 150) := PT_cells (fun k k1 k2 => d1 k (by omega)) hPt
    simp only [s148_45, s148_46, s148_49, s148_50, s148_53, s148_56, sx_push, tf, List.length_cons, List.length_nil, Option.some.injEq, exists_eq_left', Nat.reduceAdd, Nat.reduceLeDiff, true_and, and_true, true_or, or_true, Int.zero_add, Nat.zero_le, eq_self, ne_eq, not_true_eq_false, not_false_eq_true, false_implies, true_implies, implies_true, b2i_0, b2i_1, b2i_01, up_sc, sc_at, sc_sc, ite_true, ite_false, if_true, if_false, Nat.reduceEqDiff, reduceIte, tp isP12, x128 isP12 isP7]
    have ia := inv_anew hO.1
    refine ⟨othF (σ 150) (anewF (σ 150)) 160, congrArg vI (cnt_oth (fun q q0 q1 => decide_eq_true_iff.trans (oth_i (rL_w hPt3.1.1) (rL_w d4.1) (fun p p0 p1 z => by rw [ia.2.1 p p0 p1] at z; exact z) (rL_v hPt3.1.1) (rL_v d4.1) q q0 q1))), ?_⟩
    have fr2 : ∀ k, (k < 7 ∨ 16 < k) → σ3 k = σ1 k := fun k hk => by rw [d1 k (by omega), b1 k (by omega)]
    have g149 : σ3 149 = σ 149 := by rw [fr2 149 (by omega), a1 149 (by omega) (by omega)]
    have g150 : σ3 150 = σ 150 := by rw [fr2 150 (by omega), a1 150 (by omega) (by omega)]
    have g151 : σ3 151 = σ 151 := by rw [fr2 151 (by omega), a1 151 (by omega) (by omega)]
    refine x274t (by rw [g150]; exact hO.1.2.1) (by rw [g149]; exact ki.2.2.1) (by rw [g149]; exact ki.2.2.2) (by rw [g150]; exact e) (fun σ4 e1 e2 e3 e4 => ?_)
    rw [g150] at e3 e4 ⊢
    rw [g149] at e2 e4
    rw [g151] at e4
    refine ⟨rfl, rfl, ?_⟩
    have rO := rowOk_anew hO
    generalize hA : anewF (σ 150) = A at *
    refine Rel_act (σ2 := σ3) (f := A) h m.1 m.2 a1 a2 a3 a4 (fun k hk => fr2 k hk) ⟨d4, fun q q0 q1 hq => ?_, fun q q0 q1 => ?_⟩ rO ?_ (fun k hk => e1 k (by omega)) e3 e4 e2 (fun k k1 k2 => ?_)
    · rw [ia.2.1 q q0 q1] at hq; exact d5 q q0 q1 hq
    · rw [d2, nmF_n (f := σ 150) (fun j hj => ia.2.2 j (by omega)) q0, ia.2.1 q q0 q1]
      exact hP2.2.2 q q0 q1
    · rw [d3, b1 7 (by omega), a1 7 (by omega) (by omega), m.2, ia.2.2 480 (by omega)]
    · unfold scr at k2
      rw [e1 k (by omega), fr2 k (by omega), a1 k (by omega) (by omega)]
theorem cl29 {x y z w : Int} : call2 n c 122 249 [some (vR 1), some (vI x), some (vI y), some (vI z), some (vI w), none, none] [some (vR 149), some (vI x), some (vI y), some (vI z), some (vI w), none] := call2_rd _ (fun σ K h => by
  have h' := h
  obtain ⟨hP, hO, hM, hH, hT, hR, hS, hF, hQ, hV, hI, hG, hW⟩ := h'
  refine Rn_iff fun K hK => ?_
  by_cases e : (σ 149 6 ≠ 0 ∧ ((0 ≤ x ∧ x ≤ 255) ∧ (0 ≤ y ∧ y ≤ 255) ∧ 0 ≤ z ∧ z ≤ 255) ∧ fnd (fun p => decide (σ 150 p = 1 ∧ σ 150 (40 + p) = x ∧ σ 150 (80 + p) = y ∧ σ 150 (120 + p) = z)) 40 0 = -1 ∧ fnd (fun p => decide (σ 150 p = 0)) 40 0 ≠ -1) ∧ (0 ≤ w ∧ w ≤ 1)
  · rw [if_pos e] at hK
    obtain ⟨e1, w0, w1⟩ := e
    have c2 := e1.2.1
    have e2 : plc x y z = pk x y z := if_pos c2
    have x123' := fun K => x123 (n := n) (K := K) h (x := x) (y := y) (z := z)
    rw [b2i_t e1] at x123'
    by_cases er : rootF (σ 150) 40 0 = -1
    · have l10 := level_none (f := σ 150) (x := x) (y := y) (z := z) (root_m1 hO.1 er)
      rw [l10, if_pos rfl] at hK
      simp only [s122_0, s122_1, s122_2, s122_3, s122_6, s122_8, s122_9, s122_11, s122_14, s122_17, s122_19, s122_22, s122_24, s122_25, s122_28, s122_29, s122_30, s122_31, s122_34, s122_37, s122_38, s122_41, s122_43, s122_46, s122_48, s122_51, s122_52, Int.reduceToNat, Int.reducePow, Nat.reducePow, Int.reduceLE, Int.reduceLT, Int.reduceNeg, Int.reduceEq, Int.reduceNe, Int.reduceAdd, Int.reduceSub, Int.reduceMul, and_self, sx_push, tf, List.length_cons, List.length_nil, Option.some.injEq, exists_eq_left', Nat.reduceAdd, Nat.reduceLeDiff, true_and, and_true, true_or, or_true, Int.zero_add, Nat.zero_le, eq_self, ne_eq, not_true_eq_false, not_false_eq_true, false_implies, true_implies, implies_true, b2i_0, b2i_1, b2i_01, up_sc, sc_at, sc_sc, ite_true, ite_false, if_true, if_false, Nat.reduceEqDiff, reduceIte, x33, x123', hP.1.2.2.1, er]
      repeat' (first | intro _ | refine And.intro ?_ ?_)
      all_goals first | omega | contradiction | (rw [if_pos (by omega)] at hK; exact hK) | (rw [if_neg (by omega)] at hK; exact hK)
    · have rs := root_n1 hO.1 er
      have lv := lv_level hO.1.2.1 c2.1 c2.2.1 c2.2.2 rs.1.1 rs.1.2 rs.2.1 (by omega) 9 1 (by omega) (by omega)
      have li := lvF_in (σ 150) x y z 9 1 (by omega) (by omega)
      rw [show levelO (σ 150) x y z = lvF (σ 150) x y z 9 1 from lv] at hK
      have x38' := fun K => x38 (n := n) (K := K) isP7 hP.1.1 hO.1.2.1 (l := 0) (by omega) (by omega) c2.1 c2.2.1 c2.2.2
      rw [show lvF (σ 150) x y z (9 - 0 : Int).toNat (0 + 1) = lvF (σ 150) x y z 9 1 from rfl] at x38'
      rw [e2] at x123'
      simp only [s122_0, s122_1, s122_2, s122_3, s122_6, s122_8, s122_9, s122_11, s122_14, s122_17, s122_19, s122_22, s122_24, s122_25, s122_28, s122_29, s122_30, s122_31, s122_34, s122_37, s122_38, s122_41, s122_43, s122_46, s122_48, s122_51, s122_52, s122_53, s122_54, s122_57, s122_58, s122_60, s122_63, s122_65, s122_67, s122_70, s122_72, s122_75, s122_76, s122_79, s122_81, s122_82, s122_83, s122_85, s122_88, Int.reduceToNat, Int.reducePow, Nat.reducePow, Int.reduceLE, Int.reduceLT, Int.reduceNeg, Int.reduceEq, Int.reduceNe, Int.reduceAdd, Int.reduceSub, Int.reduceMul, and_self, sx_push, tf, List.length_cons, List.length_nil, Option.some.injEq, exists_eq_left', Nat.reduceAdd, Nat.reduceLeDiff, true_and, and_true, true_or, or_true, Int.zero_add, Nat.zero_le, eq_self, ne_eq, not_true_eq_false, not_false_eq_true, false_implies, true_implies, implies_true, b2i_0, b2i_1, b2i_01, up_sc, sc_at, sc_sc, ite_true, ite_false, if_true, if_false, Nat.reduceEqDiff, reduceIte, x33, e2, x123', hP.1.2.2.1, x38', x39 isP7 hP.1.1 hO.1.2.1 (show 0 ≤ lvF (σ 150) x y z 9 1 + 1 by omega) c2.1 c2.2.1 c2.2.2]
      generalize lvF (σ 150) x y z 9 1 = l at *
      repeat' (first | intro _ | refine And.intro ?_ ?_)
      all_goals first | omega | contradiction | (rw [if_pos (by omega)] at hK; exact hK) | (rw [if_neg (by omega), if_neg (by omega)] at hK; exact hK)
  · rw [if_neg e] at hK
    simp only [s122_0, s122_1, s122_2, s122_3, s122_6, s122_8, s122_9, s122_11, s122_14, s122_17, s122_19, s122_22, s122_24, s122_25, s122_28, s122_29, sx_push, tf, List.length_cons, List.length_nil, Option.some.injEq, exists_eq_left', Nat.reduceAdd, Nat.reduceLeDiff, true_and, and_true, true_or, or_true, Int.zero_add, Nat.zero_le, eq_self, ne_eq, not_true_eq_false, not_false_eq_true, false_implies, true_implies, implies_true, b2i_0, b2i_1, b2i_01, up_sc, sc_at, sc_sc, ite_true, ite_false, if_true, if_false, Nat.reduceEqDiff, reduceIte, x33, x123 h]
    repeat' (first | intro _ | refine And.intro ?_ ?_)
    all_goals first | exact hK | omega | (exfalso; apply e; constructor <;> first | omega | assumption)) (fun σ K h => x249 (Rel_wfc h))
end A5
