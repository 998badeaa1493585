/-! the reference: acts -/
def remS (σ : sxS) : sxS := sc (sc σ 151 (keptF (σ 151) (σ 150) (σ 149 4))) 149 (up1 (σ 149) 4 (if σ 149 4 = 20 then 20 else σ 149 4 + 1))
theorem remS_at {σ : sxS} {k : Nat} (h1 : k ≠ 149) (h2 : k ≠ 151) : remS σ k = σ k := by
  unfold remS; simp only [sc_at, h1, h2, reduceIte]
def canC (s f : Int → Int) (x y z : Int) : Prop := s 6 ≠ 0 ∧ ((0 ≤ x ∧ x ≤ 255) ∧ (0 ≤ y ∧ y ≤ 255) ∧ 0 ≤ z ∧ z ≤ 255) ∧ fnd (fun p => decide (f p = 1 ∧ f (40 + p) = x ∧ f (80 + p) = y ∧ f (120 + p) = z)) 40 0 = -1 ∧ fnd (fun p => decide (f p = 0)) 40 0 ≠ -1
def freeF (f : Int → Int) : Int := fnd (fun p => decide (f p = 0)) 40 0
def comeN (f : Int → Int) (x y z : Int) : Int → Int := comesF (blkF (fun _ => 0) (240 + 6 * freeF f) f 6) (freeF f) x y z
section M14
variable {n : Nat} {σ : sxS} {K : Option sxV → sxT → sxS → Prop}
theorem x267t {x y z : Int} (hw : wfc (σ 150)) (u0 : 0 ≤ σ 149 4) (u1 : σ 149 4 ≤ 20) (h : canC (σ 149) (σ 150) x y z) : Rn 267 0 [some (vR 149), some (vI x), some (vI y), some (vI z)] [] (T0 n) σ K ↔ K (some (vI (freeF (σ 150)))) (T0 n) (sc (remS σ) 150 (comeN (σ 150) x y z)) := by
  refine Rn_iff fun K hK => ?_
  have e : remS σ 150 = σ 150 := remS_at (by decide) (by decide)
  have hr : sc (sc σ 151 (keptF (σ 151) (σ 150) (σ 149 4))) 149 (up1 (σ 149) 4 (if σ 149 4 = 20 then 20 else σ 149 4 + 1)) = remS σ := rfl
  unfold canC at h
  simp only [s267_0, s267_1, s267_2, s267_3, s267_4, s267_7, s267_10, s267_11, s267_12, s267_15, s267_16, s267_17, s267_20, s267_21, s267_22, s267_23, s267_24, s267_27, sx_push, tf, x250, h, b2i_t, x268 u0 u1, hr, x269 (σ := remS σ) (by rw [e]; exact hw) h.2.1.1 h.2.1.2.1 h.2.1.2.2 (by rw [e]; exact h.2.2.2), e, List.length_nil, ne_eq, not_false_eq_true, and_self, true_and, Nat.zero_le]
  repeat' (first | intro _ | refine And.intro ?_ ?_)
  all_goals first | exact hK | (exfalso; contradiction) | omega
theorem x267f {x y z : Int} (hr : inI (σ 155 2 + 1)) (h : ¬ canC (σ 149) (σ 150) x y z) : Rn 267 0 [some (vR 149), some (vI x), some (vI y), some (vI z)] [] (T0 n) σ K ↔ K (some (vI (-1))) (T0 n) (sc σ 155 (up1 (σ 155) 2 (σ 155 2 + 1))) := by
  refine Rn_iff fun K hK => ?_
  unfold canC at h
  simp only [s267_0, s267_1, s267_2, s267_3, s267_4, s267_7, s267_10, s267_11, s267_12, s267_15, s267_16, s267_17, s267_20, s267_21, s267_22, s267_23, s267_24, s267_27, sx_push, tf, List.length_cons, List.length_nil, Option.some.injEq, exists_eq_left', Nat.reduceAdd, Nat.reduceLeDiff, true_and, and_true, true_or, or_true, Int.zero_add, Nat.zero_le, eq_self, ne_eq, not_true_eq_false, not_false_eq_true, false_implies, true_implies, implies_true, b2i_0, b2i_1, b2i_01, up_sc, sc_at, sc_sc, ite_true, ite_false, if_true, if_false, Nat.reduceEqDiff, reduceIte, x250, h, x169 (w := 2) (by omega) (by omega) hr]
  repeat' (first | intro _ | refine And.intro ?_ ?_)
  all_goals first | exact hK | (exfalso; contradiction) | omega
def thereP (f : Int → Int) (p : Int) : Prop := (0 ≤ p ∧ p < 40) ∧ f p = 1
theorem x271t {p : Int} (hw : wfc (σ 150)) (ht : tree (σ 150)) (h1 : oneRoot (σ 150)) (u0 : 0 ≤ σ 149 4) (u1 : σ 149 4 ≤ 20) (h : thereP (σ 150) p) (hK : ∀ σ' : sxS, σ' 150 = goesF (σ 150) p → (∀ k, k ≠ 150 → k ≠ 159 → σ' k = remS σ k) → K (some (vI 1)) (T0 n) σ') : Rn 271 0 [some (vR 149), some (vI p)] [] (T0 n) σ K := by
  have e : remS σ 150 = σ 150 := remS_at (by decide) (by decide)
  have hr : sc (sc σ 151 (keptF (σ 151) (σ 150) (σ 149 4))) 149 (up1 (σ 149) 4 (if σ 149 4 = 20 then 20 else σ 149 4 + 1)) = remS σ := rfl
  unfold thereP at h
  have go := x254 (n := n) (K := fun r T' σ' => Rn 271 23 [some (vR 149), some (vI p)] (sx_push r []) T' σ' K) (σ := remS σ) h.1.1 h.1.2 (by rw [e]; exact h.2) (by rw [e]; exact hw) (by rw [e]; exact ht) (by rw [e]; exact h1) (fun σ' s1 s2 => by
    rw [e] at s1
    simp only [s271_0, s271_1, s271_2, s271_5, s271_8, s271_9, s271_10, s271_13, s271_14, s271_15, s271_18, s271_19, s271_20, s271_23, s271_24, sx_push, tf, List.length_cons, List.length_nil, Option.some.injEq, exists_eq_left', Nat.reduceAdd, Nat.reduceLeDiff, true_and, and_true, true_or, or_true, Int.zero_add, Nat.zero_le, eq_self, ne_eq, not_true_eq_false, not_false_eq_true, false_implies, true_implies, implies_true, b2i_0, b2i_1, b2i_01, up_sc, sc_at, sc_sc, ite_true, ite_false, if_true, if_false, Nat.reduceEqDiff, reduceIte]
    exact hK σ' s1 s2)
  simp only [s271_0, s271_1, s271_2, s271_5, s271_8, s271_9, s271_10, s271_13, s271_14, s271_15, s271_18, s271_19, s271_20, sx_push, tf, List.length_cons, List.length_nil, Option.some.injEq, exists_eq_left', Nat.reduceAdd, Nat.reduceLeDiff, true_and, and_true, true_or, or_true, Int.zero_add, Nat.zero_le, eq_self, ne_eq, not_true_eq_false, not_false_eq_true, false_implies, true_implies, implies_true, b2i_0, b2i_1, b2i_01, up_sc, sc_at, sc_sc, ite_true, ite_false, if_true, if_false, Nat.reduceEqDiff, reduceIte, x205, x268 u0 u1, hr]
  repeat' (first | intro _ | refine And.intro ?_ ?_)
  all_goals first | exact go | (exfalso; contradiction) | omega
theorem x271f {p : Int} (hr : inI (σ 155 2 + 1)) (h : ¬ thereP (σ 150) p) : Rn 271 0 [some (vR 149), some (vI p)] [] (T0 n) σ K ↔ K (some (vI 0)) (T0 n) (sc σ 155 (up1 (σ 155) 2 (σ 155 2 + 1))) := by
  refine Rn_iff fun K hK => ?_
  unfold thereP at h
  simp only [s271_0, s271_1, s271_2, s271_5, s271_8, s271_9, s271_10, s271_13, s271_14, s271_15, s271_18, s271_19, s271_20, s271_23, s271_24, sx_push, tf, List.length_cons, List.length_nil, Option.some.injEq, exists_eq_left', Nat.reduceAdd, Nat.reduceLeDiff, true_and, and_true, true_or, or_true, Int.zero_add, Nat.zero_le, eq_self, ne_eq, not_true_eq_false, not_false_eq_true, false_implies, true_implies, implies_true, b2i_0, b2i_1, b2i_01, up_sc, sc_at, sc_sc, ite_true, ite_false, if_true, if_false, Nat.reduceEqDiff, reduceIte, x205, h, x172 (w := 2) (by omega) (by omega) hr]
  repeat' (first | intro _ | refine And.intro ?_ ?_)
  all_goals first | exact hK | (exfalso; contradiction) | omega
theorem wfc_goes {f : Int → Int} {g : Int} : True := trivial
def movC (f : Int → Int) (p x y z : Int) : Prop := thereP f p ∧ ((0 ≤ x ∧ x ≤ 255) ∧ (0 ≤ y ∧ y ≤ 255) ∧ 0 ≤ z ∧ z ≤ 255) ∧ fnd (fun p => decide (f p = 1 ∧ f (40 + p) = x ∧ f (80 + p) = y ∧ f (120 + p) = z)) 40 0 = -1
theorem x272t {p x y z : Int} (hw : wfc (σ 150)) (ht : tree (σ 150)) (h1 : oneRoot (σ 150)) (u0 : 0 ≤ σ 149 4) (u1 : σ 149 4 ≤ 20) (h : movC (σ 150) p x y z) (hwg : wfc (goesF (σ 150) p)) (hK : ∀ σ' : sxS, σ' 150 = comesF (goesF (σ 150) p) p x y z → (∀ k, k ≠ 150 → k ≠ 159 → σ' k = remS σ k) → K (some (vI 1)) (T0 n) σ') : Rn 272 0 [some (vR 149), some (vI p), some (vI x), some (vI y), some (vI z)] [] (T0 n) σ K := by
  have e : remS σ 150 = σ 150 := remS_at (by decide) (by decide)
  have hr : sc (sc σ 151 (keptF (σ 151) (σ 150) (σ 149 4))) 149 (up1 (σ 149) 4 (if σ 149 4 = 20 then 20 else σ 149 4 + 1)) = remS σ := rfl
  unfold movC thereP at h
  obtain ⟨⟨p01, p2⟩, hpl, hat⟩ := h
  have go := x254 (n := n) (K := fun r T' σ' => Rn 272 45 [some (vR 149), some (vI p), some (vI x), some (vI y), some (vI z)] (sx_push r []) T' σ' K) (σ := remS σ) p01.1 p01.2 (by rw [e]; exact p2) (by rw [e]; exact hw) (by rw [e]; exact ht) (by rw [e]; exact h1) (fun σ' s1 s2 => by
    rw [e] at s1
    simp only [s272_0, s272_1, s272_2, s272_5, s272_8, s272_9, s272_10, s272_12, s272_15, s272_18, s272_19, s272_20, s272_21, s272_23, s272_26, s272_27, s272_30, s272_31, s272_32, s272_35, s272_36, s272_37, s272_40, s272_41, s272_42, s272_45, s272_46, s272_47, s272_48, s272_49, s272_51, s272_54, s272_55, sx_push, tf, List.length_cons, List.length_nil, Option.some.injEq, exists_eq_left', Nat.reduceAdd, Nat.reduceLeDiff, true_and, and_true, true_or, or_true, Int.zero_add, Nat.zero_le, eq_self, ne_eq, not_true_eq_false, not_false_eq_true, false_implies, true_implies, implies_true, b2i_0, b2i_1, b2i_01, up_sc, sc_at, sc_sc, ite_true, ite_false, if_true, if_false, Nat.reduceEqDiff, reduceIte, x191 (σ := σ') (by rw [s1]; exact hwg) hpl.1 hpl.2.1 hpl.2.2 p01.1 p01.2]
    refine hK _ (by simp only [sc_at, reduceIte, s1]) (fun k k1 k2 => by simp only [sc_at, k1, reduceIte]; exact s2 k k1 k2))
  simp only [s272_0, s272_1, s272_2, s272_5, s272_8, s272_9, s272_10, s272_12, s272_15, s272_18, s272_19, s272_20, s272_21, s272_23, s272_26, s272_27, s272_30, s272_31, s272_32, s272_35, s272_36, s272_37, s272_40, s272_41, s272_42, sx_push, tf, List.length_cons, List.length_nil, Option.some.injEq, exists_eq_left', Nat.reduceAdd, Nat.reduceLeDiff, true_and, and_true, true_or, or_true, Int.zero_add, Nat.zero_le, eq_self, ne_eq, not_true_eq_false, not_false_eq_true, false_implies, true_implies, implies_true, b2i_0, b2i_1, b2i_01, up_sc, sc_at, sc_sc, ite_true, ite_false, if_true, if_false, Nat.reduceEqDiff, reduceIte, x205, x226, x213, hat, x268 u0 u1, hr]
  repeat' (first | intro _ | refine And.intro ?_ ?_)
  all_goals first | exact go | (exfalso; contradiction) | omega
theorem x272f {p x y z : Int} (hr : inI (σ 155 2 + 1)) (h : ¬ movC (σ 150) p x y z) : Rn 272 0 [some (vR 149), some (vI p), some (vI x), some (vI y), some (vI z)] [] (T0 n) σ K ↔ K (some (vI 0)) (T0 n) (sc σ 155 (up1 (σ 155) 2 (σ 155 2 + 1))) := by
  refine Rn_iff fun K hK => ?_
  unfold movC thereP at h
  simp only [s272_0, s272_1, s272_2, s272_5, s272_8, s272_9, s272_10, s272_12, s272_15, s272_18, s272_19, s272_20, s272_21, s272_23, s272_26, s272_27, s272_30, s272_31, s272_32, s272_35, s272_36, sx_push, tf, List.length_cons, List.length_nil, Option.some.injEq, exists_eq_left', Nat.reduceAdd, Nat.reduceLeDiff, true_and, and_true, true_or, or_true, Int.zero_add, Nat.zero_le, eq_self, ne_eq, not_true_eq_false, not_false_eq_true, false_implies, true_implies, implies_true, b2i_0, b2i_1, b2i_01, up_sc, sc_at, sc_sc, ite_true, ite_false, if_true, if_false, Nat.reduceEqDiff, reduceIte, x205, x226, x213, x172 (w := 2) (by omega) (by omega) hr]
  repeat' (first | intro _ | refine And.intro ?_ ?_)
  all_goals first | exact hK | (exfalso; contradiction) | (exfalso; apply h; refine ⟨⟨?_, ?_⟩, ?_, ?_⟩ <;> first | assumption | omega) | omega
end M14
