/-! links: the calls -/
theorem rowL_at {r lk : Int → Int} : ∀ (k : Nat) (i i' : Int), rowL r (arK lk k i) i' → ∀ j : Int, 0 ≤ j → j < k → r (3 * (i' + j)) = lk (i + j) / 64 % 64 ∧ r (3 * (i' + j) + 1) = lk (i + j) % 64 ∧ r (3 * (i' + j) + 2) = lk (i + j) / 4096 := by
  intro k
  induction k with
  | zero => intro i i' _ j j0 j1; omega
  | succ k ih =>
    intro i i' h j j0 j1
    by_cases z : j = 0
    · subst z
      rw [Int.add_zero, Int.add_zero]; exact h.1
    · have := ih (i + 1) (i' + 1) h.2 (j - 1) (by omega) (by omega)
      rw [show i' + 1 + (j - 1) = i' + j by omega, show i + 1 + (j - 1) = i + j by omega] at this
      exact this
theorem incM_at {f lk : Int → Int} : ∀ (k : Nat) (i lo : Int), incM f (arK lk k i) lo → ∀ j : Int, 0 ≤ j → j < k → edg f (lk (i + j)) := by
  intro k
  induction k with
  | zero => intro i lo _ j j0 j1; omega
  | succ k ih =>
    intro i lo h j j0 j1
    by_cases z : j = 0
    · subst z
      rw [Int.add_zero]; exact h.2.1
    · have := ih (i + 1) (lk i) h.2.2.2 (j - 1) (by omega) (by omega)
      rw [show i + 1 + (j - 1) = i + j by omega] at this
      exact this
theorem edg_x {f : Int → Int} (hw : wfc f) {w : Int} (h : edg f w) : ∃ a b d, w = pkP a b d ∧ (0 ≤ a ∧ a < 40) ∧ (0 ≤ b ∧ b < 40) ∧ (0 ≤ d ∧ d ≤ 765) ∧ thr f a ∧ thr f b ∧ a < b ∧ w / 64 % 64 = a ∧ w % 64 = b ∧ w / 4096 = d := by
  obtain ⟨a, b, ha, hb, hab, rfl⟩ := h
  obtain ⟨e0, e1, e2, e3⟩ := wE_in hw ha hb (by omega)
  have fo := farO_in hw ha.1.1 ha.1.2 hb.1.1 hb.1.2
  refine ⟨a, b, farO f a b, ?_, ha.1, hb.1, fo, ha, hb, hab, e1, e2, e3⟩
  rw [wE_lt (by omega)]; rfl
section L5
variable {n : Nat} {c : Int} {σ : sxS} {K : Option sxV → sxT → sxS → Prop} {f : Int → Int}
theorem x110w (hw : wfc f) {w q : Int} (h : edg f w) : Rn 110 0 [some (vI w), some (vI q)] [] (T0 n) σ K ↔ K (some (vI (if q = 0 then w / 64 % 64 else if q = 1 then w % 64 else w / 4096))) (T0 n) σ := by
  obtain ⟨a, b, d, e, ha, hb, hd, _, _, _, e1, e2, e3⟩ := edg_x hw h
  rw [e1, e2, e3, e]
  exact x110 (by omega) (by omega) (by omega) (by omega) (by omega) (by omega)
theorem x116l (hw : wfc f) {m : Int} (h8 : σ 133 8 = m) (m1 : m < 40) (he : ∀ j, 0 ≤ j → j < m → edg f (σ 135 j)) : ∀ (k : Nat) (i a : Int), i + k = m → 0 ≤ i → 0 ≤ a → a ≤ 765 * i → K (some (vI (sumF (fun j => σ 135 j / 4096) k i a))) (T0 n) σ → Rn 116 4 [some (vR 133), some (vI a), some (vI i)] [] (T0 n) σ K := by
  intro k
  induction k with
  | zero =>
    intro i a hi i0 a0 a1 hK
    unfold sumF at hK
    rw [s116_4]
    simp only [s116_5, s116_6, s116_9, s116_31, s116_32, Int.reduceToNat, Int.reducePow, Nat.reducePow, Int.reduceLE, Int.reduceLT, Int.reduceNeg, Int.reduceEq, Int.reduceNe, Int.reduceAdd, Int.reduceSub, Int.reduceMul, and_self, sx_push, tf, List.length_cons, List.length_nil, Option.some.injEq, exists_eq_left', Nat.reduceAdd, Nat.reduceLeDiff, true_and, and_true, true_or, or_true, Int.zero_add, Nat.zero_le, eq_self, ne_eq, not_true_eq_false, not_false_eq_true, false_implies, true_implies, implies_true, b2i_0, b2i_1, b2i_01, up_sc, sc_at, sc_sc, ite_true, ite_false, if_true, if_false, Nat.reduceEqDiff, reduceIte, h8]
    repeat' (first | intro _ | refine And.intro ?_ ?_)
    all_goals first | omega | exact hK
  | succ k ih =>
    intro i a hi i0 a0 a1 hK
    unfold sumF at hK
    have e := he i i0 (by omega)
    obtain ⟨_, _, d, _, _, _, hd, _, _, _, _, _, e3⟩ := edg_x hw e
    have nx := ih (i + 1) (a + σ 135 i / 4096) (by omega) (by omega) (by omega) (by omega) hK
    have xx := fun K => x110w (n := n) (σ := σ) (K := K) hw (q := 2) e
    rw [if_neg (by decide), if_neg (by decide)] at xx
    rw [s116_4]
    simp only [s116_5, s116_6, s116_9, s116_12, s116_13, s116_14, s116_17, s116_18, s116_19, s116_20, s116_23, s116_24, s116_25, s116_28, Int.reduceToNat, Int.reducePow, Nat.reducePow, Int.reduceLE, Int.reduceLT, Int.reduceNeg, Int.reduceEq, Int.reduceNe, Int.reduceAdd, Int.reduceSub, Int.reduceMul, and_self, sx_push, tf, List.length_cons, List.length_nil, Option.some.injEq, exists_eq_left', Nat.reduceAdd, Nat.reduceLeDiff, true_and, and_true, true_or, or_true, Int.zero_add, Nat.zero_le, eq_self, ne_eq, not_true_eq_false, not_false_eq_true, false_implies, true_implies, implies_true, b2i_0, b2i_1, b2i_01, up_sc, sc_at, sc_sc, ite_true, ite_false, if_true, if_false, Nat.reduceEqDiff, reduceIte, h8, xx]
    repeat' (first | intro _ | refine And.intro ?_ ?_)
    all_goals first | omega | exact nx
theorem x116 (hw : wfc f) {m : Int} (h8 : σ 133 8 = m) (m0 : 0 ≤ m) (m1 : m < 40) (he : ∀ j, 0 ≤ j → j < m → edg f (σ 135 j)) : Rn 116 0 [some (vR 133), none, none] [] (T0 n) σ K ↔ K (some (vI (sumF (fun j => σ 135 j / 4096) m.toNat 0 0))) (T0 n) σ := by
  refine Rn_iff fun K hK => ?_
  have nx := x116l (n := n) (K := K) hw h8 m1 he m.toNat 0 0 (by omega) (by omega) (by omega) (by omega) hK
  simp only [s116_0, s116_1, s116_2, s116_3, Int.reduceToNat, Int.reducePow, Nat.reducePow, Int.reduceLE, Int.reduceLT, Int.reduceNeg, Int.reduceEq, Int.reduceNe, Int.reduceAdd, Int.reduceSub, Int.reduceMul, and_self, sx_push, tf, List.length_cons, List.length_nil, Option.some.injEq, exists_eq_left', Nat.reduceAdd, Nat.reduceLeDiff, true_and, and_true, true_or, or_true, Int.zero_add, Nat.zero_le, eq_self, ne_eq, not_true_eq_false, not_false_eq_true, false_implies, true_implies, implies_true, b2i_0, b2i_1, b2i_01, up_sc, sc_at, sc_sc, ite_true, ite_false, if_true, if_false, Nat.reduceEqDiff, reduceIte]
  repeat' (first | intro _ | refine And.intro ?_ ?_)
  all_goals first | omega | exact nx
theorem x245l {m : Int} {k' w' : Int} (m1 : m < 40) {lk : Int → Int} (hr : ∀ j, 0 ≤ j → j < m → σ 165 (3 * j + 2) = lk j / 4096 ∧ 0 ≤ lk j / 4096 ∧ lk j / 4096 ≤ 765) : ∀ (k : Nat) (i a : Int), i + k = m → 0 ≤ i → 0 ≤ a → a ≤ 765 * i → K (some (vI (sumF (fun j => lk j / 4096) k i a))) (T0 n) σ → Rn 245 18 [some (vR 149), some (vI k'), some (vI w'), some (vI m), some (vI a), some (vI i)] [] (T0 n) σ K := by
  intro k
  induction k with
  | zero =>
    intro i a hi i0 a0 a1 hK
    unfold sumF at hK
    rw [s245_18]
    simp only [s245_20, s245_21, s245_46, s245_48, Int.reduceToNat, Int.reducePow, Nat.reducePow, Int.reduceLE, Int.reduceLT, Int.reduceNeg, Int.reduceEq, Int.reduceNe, Int.reduceAdd, Int.reduceSub, Int.reduceMul, and_self, sx_push, tf, List.length_cons, List.length_nil, Option.some.injEq, exists_eq_left', Nat.reduceAdd, Nat.reduceLeDiff, true_and, and_true, true_or, or_true, Int.zero_add, Nat.zero_le, eq_self, ne_eq, not_true_eq_false, not_false_eq_true, false_implies, true_implies, implies_true, b2i_0, b2i_1, b2i_01, up_sc, sc_at, sc_sc, ite_true, ite_false, if_true, if_false, Nat.reduceEqDiff, reduceIte]
    repeat' (first | intro _ | refine And.intro ?_ ?_)
    all_goals first | omega | exact hK
  | succ k ih =>
    intro i a hi i0 a0 a1 hK
    unfold sumF at hK
    obtain ⟨e1, e2, e3⟩ := hr i i0 (by omega)
    have nx := ih (i + 1) (a + lk i / 4096) (by omega) (by omega) (by omega) (by omega) hK
    rw [s245_18]
    simp only [s245_20, s245_21, s245_24, s245_26, s245_27, s245_30, s245_31, s245_33, s245_34, s245_35, s245_36, s245_37, s245_38, s245_40, s245_43, Int.reduceToNat, Int.reducePow, Nat.reducePow, Int.reduceLE, Int.reduceLT, Int.reduceNeg, Int.reduceEq, Int.reduceNe, Int.reduceAdd, Int.reduceSub, Int.reduceMul, and_self, sx_push, tf, List.length_cons, List.length_nil, Option.some.injEq, exists_eq_left', Nat.reduceAdd, Nat.reduceLeDiff, true_and, and_true, true_or, or_true, Int.zero_add, Nat.zero_le, eq_self, ne_eq, not_true_eq_false, not_false_eq_true, false_implies, true_implies, implies_true, b2i_0, b2i_1, b2i_01, up_sc, sc_at, sc_sc, ite_true, ite_false, if_true, if_false, Nat.reduceEqDiff, reduceIte, e1]
    repeat' (first | intro _ | refine And.intro ?_ ?_)
    all_goals first | omega | exact nx
/-- what of the class and of the reference no answer depends on -/
theorem Rel_lk {σ' : sxS} (h : Rel c σ) (hk : ∀ q, q ≠ 133 → q ≠ 135 → q ≠ 136 → q ≠ 138 → q ≠ 140 → q ≠ 164 → q ≠ 165 → σ' q = σ q) : Rel (c + 1) σ' := by
  refine Rel_w (Rel_cg h (fun k hk' => ?_) ?_ ?_ ?_) (by omega)
  · unfold scr at hk'
    exact hk k (by omega) (by omega) (by omega) (by omega) (by omega) (by omega) (by omega)
  · rw [hk 149 (by decide) (by decide) (by decide) (by decide) (by decide) (by decide) (by decide)]; exact f149_rfl
  · rw [hk 4 (by decide) (by decide) (by decide) (by decide) (by decide) (by decide) (by decide)]; exact ⟨rfl, rfl⟩
  · exact hk 126 (by decide) (by decide) (by decide) (by decide) (by decide) (by decide) (by decide)
/-- a list of all pairs -/
theorem all_L {len : Int} {f : Int → Int} (hw : wfc f) (hl : 765 ≤ len) {l2 : List Int} {lo : Int} (hi : incM f l2 lo) (h : l2 = [] ∨ ∃ w l2', l2 = w :: l2' ∧ len < w / 4096) : l2 = [] := by
  rcases h with h | ⟨w, l2', rfl, h⟩
  · exact h
  · obtain ⟨_, _, d, _, _, _, hd, _, _, _, _, _, e3⟩ := edg_x hw hi.2.1
    omega
def lkV (lk : Int → Int) (m k w : Int) : Int := if k = -1 then sumF (fun j => lk j / 4096) m.toNat 0 0 else if (0 ≤ k ∧ k ≤ m - 1) ∧ (0 ≤ w ∧ w ≤ 2) then (if w = 0 then lk k / 64 % 64 else if w = 1 then lk k % 64 else lk k / 4096) else -1
theorem x245 {lk : Int → Int} {m k w : Int} (h150 : σ 150 = f) (h01 : th01 f) (hw : wfc f) (hj : jaP f lk m) (hK : ∀ σ', (∀ q, q ≠ 164 → q ≠ 165 → σ' q = σ q) → K (some (vI (lkV lk m k w))) (T0 n) σ') : Rn 245 0 [some (vR 149), some (vI k), some (vI w), none, none, none] [] (T0 n) σ K := by
  obtain ⟨j1, j2, j3⟩ := hj
  have go : Rn 246 0 [some (vR 149), some (vI 1000000), none, none, none, none, none, none, none] [] (T0 n) σ (fun r T' σ' => Rn 245 6 [some (vR 149), some (vI k), some (vI w), none, none, none] (sx_push r []) T' σ' K) := by
    refine x246 (L0 := arK lk m.toNat 0) (m := m) h150 h01 hw (by rw [arK_len]; omega) j1.2 j2 j3 (fun σ2 l1 l2 lo g f1 f2 f3 => ?_)
    obtain ⟨p1, p2, p3, p4, p5⟩ := f2
    have l20 := all_L hw (by omega) p2.2.1 f3
    rw [l20, List.append_nil] at p1
    have ln : (l1.length : Int) = m := by rw [p1, arK_len]; omega
    rw [ln]
    rw [p1] at p4
    have row := rowL_at m.toNat 0 0 p4
    have ed := incM_at m.toNat 0 (-1) j3
    have hK := hK σ2 f1
    unfold lkV at hK
    by_cases ek : k = -1
    · rw [if_pos ek] at hK
      have nx := x245l (n := n) (σ := σ2) (K := K) (k' := k) (w' := w) j1.2 (lk := lk) (fun j j0 jm => by
        have r := row j j0 (by omega)
        rw [Int.zero_add] at r
        have e := ed j j0 (by omega)
        rw [Int.zero_add] at e
        obtain ⟨_, _, d, _, _, _, hd, _, _, _, _, _, e3⟩ := edg_x hw e
        exact ⟨r.2.2, by omega, by omega⟩) m.toNat 0 0 (by omega) (by omega) (by omega) (by omega) hK
      simp only [s245_6, s245_7, s245_8, s245_9, s245_12, s245_13, s245_15, s245_16, Int.reduceToNat, Int.reducePow, Nat.reducePow, Int.reduceLE, Int.reduceLT, Int.reduceNeg, Int.reduceEq, Int.reduceNe, Int.reduceAdd, Int.reduceSub, Int.reduceMul, and_self, sx_push, tf, List.length_cons, List.length_nil, Option.some.injEq, exists_eq_left', Nat.reduceAdd, Nat.reduceLeDiff, true_and, and_true, true_or, or_true, Int.zero_add, Nat.zero_le, eq_self, ne_eq, not_true_eq_false, not_false_eq_true, false_implies, true_implies, implies_true, b2i_0, b2i_1, b2i_01, up_sc, sc_at, sc_sc, ite_true, ite_false, if_true, if_false, Nat.reduceEqDiff, reduceIte]
      repeat' (first | intro _ | refine And.intro ?_ ?_)
      all_goals first | omega | exact nx
    · rw [if_neg ek] at hK
      by_cases eb : (0 ≤ k ∧ k ≤ m - 1) ∧ (0 ≤ w ∧ w ≤ 2)
      · rw [if_pos eb] at hK
        have r := row k eb.1.1 (by omega)
        rw [Int.zero_add] at r
        obtain ⟨ra, rb, rd⟩ := r
        have kw : σ2 165 (3 * k + w) = if w = 0 then lk k / 64 % 64 else if w = 1 then lk k % 64 else lk k / 4096 := by
          rcases (show w = 0 ∨ w = 1 ∨ w = 2 by omega) with z | z | z
          · rw [z, if_pos rfl, Int.add_zero]; exact ra
          · rw [z, if_neg (by decide), if_pos rfl]; exact rb
          · rw [z, if_neg (by decide), if_neg (by decide)]; exact rd
        rw [← kw] at hK
        simp only [s245_6, s245_7, s245_8, s245_9, s245_49, s245_50, s245_51, s245_52, s245_53, s245_54, s245_57, s245_60, s245_61, s245_62, s245_63, s245_66, s245_69, s245_70, s245_73, s245_74, s245_75, s245_76, s245_77, s245_78, s245_79, s245_82, s245_83, Int.reduceToNat, Int.reducePow, Nat.reducePow, Int.reduceLE, Int.reduceLT, Int.reduceNeg, Int.reduceEq, Int.reduceNe, Int.reduceAdd, Int.reduceSub, Int.reduceMul, and_self, sx_push, tf, List.length_cons, List.length_nil, Option.some.injEq, exists_eq_left', Nat.reduceAdd, Nat.reduceLeDiff, true_and, and_true, true_or, or_true, Int.zero_add, Nat.zero_le, eq_self, ne_eq, not_true_eq_false, not_false_eq_true, false_implies, true_implies, implies_true, b2i_0, b2i_1, b2i_01, up_sc, sc_at, sc_sc, ite_true, ite_false, if_true, if_false, Nat.reduceEqDiff, reduceIte, x185]
        repeat' (first | intro _ | refine And.intro ?_ ?_)
        all_goals first | omega | exact hK
      · rw [if_neg eb] at hK
        simp only [s245_6, s245_7, s245_8, s245_9, s245_49, s245_50, s245_51, s245_52, s245_53, s245_54, s245_57, s245_60, s245_61, s245_62, s245_63, s245_66, s245_69, s245_70, s245_73, s245_74, s245_75, s245_76, s245_77, s245_78, s245_79, s245_82, s245_83, Int.reduceToNat, Int.reducePow, Nat.reducePow, Int.reduceLE, Int.reduceLT, Int.reduceNeg, Int.reduceEq, Int.reduceNe, Int.reduceAdd, Int.reduceSub, Int.reduceMul, and_self, sx_push, tf, List.length_cons, List.length_nil, Option.some.injEq, exists_eq_left', Nat.reduceAdd, Nat.reduceLeDiff, true_and, and_true, true_or, or_true, Int.zero_add, Nat.zero_le, eq_self, ne_eq, not_true_eq_false, not_false_eq_true, false_implies, true_implies, implies_true, b2i_0, b2i_1, b2i_01, up_sc, sc_at, sc_sc, ite_true, ite_false, if_true, if_false, Nat.reduceEqDiff, reduceIte, x185]
        repeat' (first | intro _ | refine And.intro ?_ ?_)
        all_goals first | omega | exact hK
  simp only [s245_0, s245_1, s245_3, Int.reduceToNat, Int.reducePow, Nat.reducePow, Int.reduceLE, Int.reduceLT, Int.reduceNeg, Int.reduceEq, Int.reduceNe, Int.reduceAdd, Int.reduceSub, Int.reduceMul, and_self, sx_push, tf, List.length_cons, List.length_nil, Option.some.injEq, exists_eq_left', Nat.reduceAdd, Nat.reduceLeDiff, true_and, and_true, true_or, or_true, Int.zero_add, Nat.zero_le, eq_self, ne_eq, not_true_eq_false, not_false_eq_true, false_implies, true_implies, implies_true, b2i_0, b2i_1, b2i_01, up_sc, sc_at, sc_sc, ite_true, ite_false, if_true, if_false, Nat.reduceEqDiff, reduceIte]
  repeat' (first | intro _ | refine And.intro ?_ ?_)
  all_goals first | omega | exact go
theorem jaP_ex (hA : rA σ 7 f) (hi : invF f) : ∃ lk m, jaP f lk m := by
  obtain ⟨_, _, _, σ', _, h⟩ := x113 (n := 0) (K := fun _ _ σ' => jaP f (σ' 135) (σ' 133 8)) hA hi (fun σ' _ h => h)
  exact ⟨_, _, h⟩
theorem x112 {k w : Int} (hA : rA σ 7 f) (hi : invF f) (hK : ∀ σ' lk m, (∀ q, q ≠ 133 → q ≠ 135 → q ≠ 138 → q ≠ 140 → σ' q = σ q) → jaP f lk m → K (some (vI (lkV lk m k w))) (T0 n) σ') : Rn 112 0 [some (vR 1), some (vI k), some (vI w)] [] (T0 n) σ K := by
  have hw := hi.2.1
  have h6 : σ 7 6 = cntF f 40 0 0 := hA.2.2.2
  have cm := cntF_in hi.1 40 0 0 (by omega) (by omega)
  by_cases ek : k = -1
  · have go : Rn 113 0 [some (vR 133), none, none] [] (T0 n) σ (fun r T' σ' => Rn 112 12 [some (vR 1), some (vI k), some (vI w)] (sx_push r []) T' σ' K) := by
      refine x113 hA hi (fun σ1 f1 f2 => ?_)
      have hK := hK σ1 _ _ (fun q a b d e => f1.1 q a b d e) f2
      unfold lkV at hK
      rw [if_pos ek] at hK
      have x6 := fun K => x116 (n := n) (σ := σ1) (K := K) hw rfl f2.1.1 f2.1.2 (fun j j0 j1 => by
        have := incM_at _ 0 (-1) f2.2.2 j j0 (by omega)
        rw [Int.zero_add] at this; exact this)
      simp only [s112_12, s112_13, s112_16, s112_19, Int.reduceToNat, Int.reducePow, Nat.reducePow, Int.reduceLE, Int.reduceLT, Int.reduceNeg, Int.reduceEq, Int.reduceNe, Int.reduceAdd, Int.reduceSub, Int.reduceMul, and_self, sx_push, tf, List.length_cons, List.length_nil, Option.some.injEq, exists_eq_left', Nat.reduceAdd, Nat.reduceLeDiff, true_and, and_true, true_or, or_true, Int.zero_add, Nat.zero_le, eq_self, ne_eq, not_true_eq_false, not_false_eq_true, false_implies, true_implies, implies_true, b2i_0, b2i_1, b2i_01, up_sc, sc_at, sc_sc, ite_true, ite_false, if_true, if_false, Nat.reduceEqDiff, reduceIte, x6]
      first | exact hK | (repeat' (first | intro _ | refine And.intro ?_ ?_) <;> first | omega | exact hK)
    simp only [s112_0, s112_1, s112_2, s112_5, s112_6, s112_9, Int.reduceToNat, Int.reducePow, Nat.reducePow, Int.reduceLE, Int.reduceLT, Int.reduceNeg, Int.reduceEq, Int.reduceNe, Int.reduceAdd, Int.reduceSub, Int.reduceMul, and_self, sx_push, tf, List.length_cons, List.length_nil, Option.some.injEq, exists_eq_left', Nat.reduceAdd, Nat.reduceLeDiff, true_and, and_true, true_or, or_true, Int.zero_add, Nat.zero_le, eq_self, ne_eq, not_true_eq_false, not_false_eq_true, false_implies, true_implies, implies_true, b2i_0, b2i_1, b2i_01, up_sc, sc_at, sc_sc, ite_true, ite_false, if_true, if_false, Nat.reduceEqDiff, reduceIte]
    repeat' (first | intro _ | refine And.intro ?_ ?_)
    all_goals first | omega | exact go
  · by_cases eb : (0 ≤ k ∧ k < cntF f 40 0 0 - 1) ∧ (0 ≤ w ∧ w ≤ 2)
    · have go : Rn 113 0 [some (vR 133), none, none] [] (T0 n) σ (fun r T' σ' => Rn 112 55 [some (vR 1), some (vI k), some (vI w)] (sx_push r []) T' σ' K) := by
        refine x113 hA hi (fun σ1 f1 f2 => ?_)
        have hK := hK σ1 _ _ (fun q a b d e => f1.1 q a b d e) f2
        have j2 := f2.2.1
        have j1 := f2.1
        unfold lkV at hK
        rw [if_neg ek, if_pos (by omega)] at hK
        have e := incM_at _ 0 (-1) f2.2.2 k eb.1.1 (by omega)
        rw [Int.zero_add] at e
        have xx := fun K => x110w (n := n) (σ := σ1) (K := K) hw (q := w) e
        simp only [s112_55, s112_56, s112_59, s112_62, s112_63, s112_64, s112_65, s112_68, Int.reduceToNat, Int.reducePow, Nat.reducePow, Int.reduceLE, Int.reduceLT, Int.reduceNeg, Int.reduceEq, Int.reduceNe, Int.reduceAdd, Int.reduceSub, Int.reduceMul, and_self, sx_push, tf, List.length_cons, List.length_nil, Option.some.injEq, exists_eq_left', Nat.reduceAdd, Nat.reduceLeDiff, true_and, and_true, true_or, or_true, Int.zero_add, Nat.zero_le, eq_self, ne_eq, not_true_eq_false, not_false_eq_true, false_implies, true_implies, implies_true, b2i_0, b2i_1, b2i_01, up_sc, sc_at, sc_sc, ite_true, ite_false, if_true, if_false, Nat.reduceEqDiff, reduceIte, xx]
        repeat' (first | intro _ | refine And.intro ?_ ?_)
        all_goals first | omega | exact hK
      simp only [s112_0, s112_1, s112_2, s112_20, s112_21, s112_24, s112_25, s112_26, s112_29, s112_32, s112_33, s112_34, s112_37, s112_38, s112_41, s112_42, s112_43, s112_48, s112_49, s112_52, Int.reduceToNat, Int.reducePow, Nat.reducePow, Int.reduceLE, Int.reduceLT, Int.reduceNeg, Int.reduceEq, Int.reduceNe, Int.reduceAdd, Int.reduceSub, Int.reduceMul, and_self, sx_push, tf, List.length_cons, List.length_nil, Option.some.injEq, exists_eq_left', Nat.reduceAdd, Nat.reduceLeDiff, true_and, and_true, true_or, or_true, Int.zero_add, Nat.zero_le, eq_self, ne_eq, not_true_eq_false, not_false_eq_true, false_implies, true_implies, implies_true, b2i_0, b2i_1, b2i_01, up_sc, sc_at, sc_sc, ite_true, ite_false, if_true, if_false, Nat.reduceEqDiff, reduceIte, h6]
      repeat' (first | intro _ | refine And.intro ?_ ?_)
      all_goals first | omega | exact go
    · obtain ⟨lk, m, hj⟩ := jaP_ex hA hi
      have j2 := hj.2.1
      have hK := hK σ lk m (fun _ _ _ _ _ => rfl) hj
      unfold lkV at hK
      rw [if_neg ek, if_neg (by omega)] at hK
      simp only [s112_0, s112_1, s112_2, s112_20, s112_21, s112_24, s112_25, s112_26, s112_29, s112_32, s112_33, s112_34, s112_37, s112_38, s112_41, s112_42, s112_43, s112_46, s112_47, Int.reduceToNat, Int.reducePow, Nat.reducePow, Int.reduceLE, Int.reduceLT, Int.reduceNeg, Int.reduceEq, Int.reduceNe, Int.reduceAdd, Int.reduceSub, Int.reduceMul, and_self, sx_push, tf, List.length_cons, List.length_nil, Option.some.injEq, exists_eq_left', Nat.reduceAdd, Nat.reduceLeDiff, true_and, and_true, true_or, or_true, Int.zero_add, Nat.zero_le, eq_self, ne_eq, not_true_eq_false, not_false_eq_true, false_implies, true_implies, implies_true, b2i_0, b2i_1, b2i_01, up_sc, sc_at, sc_sc, ite_true, ite_false, if_true, if_false, Nat.reduceEqDiff, reduceIte, h6]
      repeat' (first | intro _ | refine And.intro ?_ ?_)
      all_goals first | omega | exact hK
theorem cl26 {k w : Int} : call2 n c 112 245 [some (vR 1), some (vI k), some (vI w)] [some (vR 149), some (vI k), some (vI w), none, none, none] := fun σ h => by
  have h' := h
  obtain ⟨hP, hO, hM, hH, hT, hR, hS, hF, hQ, hV, hI, hG, hW⟩ := h'
  refine x112 hP.1 hO.1 (fun σ1 lk m f1 f2 => ⟨rfl, _, rfl, ?_⟩)
  refine x245 (f1 150 (by decide) (by decide) (by decide) (by decide)) hO.1.1 hO.1.2.1 f2 (fun σ2 g1 => ?_)
  have qq : ∀ q, q ≠ 133 → q ≠ 135 → q ≠ 136 → q ≠ 138 → q ≠ 140 → q ≠ 164 → q ≠ 165 → σ2 q = σ q := fun q a b d e g i j => by rw [g1 q i j, f1 q a b e g]
  exact ⟨rfl, rfl, Rel_lk h qq, qq 0 (by decide) (by decide) (by decide) (by decide) (by decide) (by decide) (by decide)⟩
/-- two groups joined: the class -/
theorem x119l {a b lo hi : Int} : ∀ (k : Nat) (p : Int) (σ1 : sxS), p + k = 40 → 0 ≤ p → (∀ q, q ≠ 136 → σ1 q = σ q) → (∀ q, 0 ≤ q → q < 40 → (q < p → σ1 136 q = if σ 136 q = hi then lo else σ 136 q) ∧ (¬ q < p → σ1 136 q = σ 136 q)) → (∀ σ', (∀ q, q ≠ 136 → σ' q = σ q) → (∀ q, 0 ≤ q → q < 40 → σ' 136 q = if σ 136 q = hi then lo else σ 136 q) → K none (T0 n) σ') → Rn 119 49 [some (vR 133), some (vI a), some (vI b), some (vI lo), some (vI hi), some (vI p)] [] (T0 n) σ1 K := by
  intro k
  induction k with
  | zero =>
    intro p σ1 hp p0 h1 h2 hK
    obtain rfl : p = 40 := by omega
    have nx := hK σ1 h1 (fun q q0 q1 => (h2 q q0 q1).1 q1)
    rw [s119_49]
    simp only [s119_51, s119_53, s119_82, Int.reduceToNat, Int.reducePow, Nat.reducePow, Int.reduceLE, Int.reduceLT, Int.reduceNeg, Int.reduceEq, Int.reduceNe, Int.reduceAdd, Int.reduceSub, Int.reduceMul, and_self, sx_push, tf, List.length_cons, List.length_nil, Option.some.injEq, exists_eq_left', Nat.reduceAdd, Nat.reduceLeDiff, true_and, and_true, true_or, or_true, Int.zero_add, Nat.zero_le, eq_self, ne_eq, not_true_eq_false, not_false_eq_true, false_implies, true_implies, implies_true, b2i_0, b2i_1, b2i_01, up_sc, sc_at, sc_sc, ite_true, ite_false, if_true, if_false, Nat.reduceEqDiff, reduceIte]
    repeat' (first | intro _ | refine And.intro ?_ ?_)
    all_goals first | omega | exact nx
  | succ k ih =>
    intro p σ1 hp p0 h1 h2 hK
    have e1 : σ1 136 p = σ 136 p := (h2 p p0 (by omega)).2 (by omega)
    rw [s119_49]
    by_cases y : σ 136 p = hi
    · have nx := ih (p + 1) (sc σ1 136 (up1 (σ1 136) p lo)) (by omega) (by omega) (fun q hq => by rw [sc_at, if_neg hq, h1 q hq]) (fun q q0 q1 => by
        rw [sc_at, if_pos rfl]
        by_cases z : q = p
        · rw [z, up1_s, if_pos y]; exact ⟨fun _ => rfl, fun w => by omega⟩
        · rw [up1_n z]
          have := h2 q q0 q1
          exact ⟨fun w => this.1 (by omega), fun w => this.2 (by omega)⟩) hK
      simp only [s119_51, s119_53, s119_56, s119_57, s119_60, s119_62, s119_63, s119_65, s119_68, s119_69, s119_72, s119_74, s119_75, s119_76, s119_79, Int.reduceToNat, Int.reducePow, Nat.reducePow, Int.reduceLE, Int.reduceLT, Int.reduceNeg, Int.reduceEq, Int.reduceNe, Int.reduceAdd, Int.reduceSub, Int.reduceMul, and_self, sx_push, tf, List.length_cons, List.length_nil, Option.some.injEq, exists_eq_left', Nat.reduceAdd, Nat.reduceLeDiff, true_and, and_true, true_or, or_true, Int.zero_add, Nat.zero_le, eq_self, ne_eq, not_true_eq_false, not_false_eq_true, false_implies, true_implies, implies_true, b2i_0, b2i_1, b2i_01, up_sc, sc_at, sc_sc, ite_true, ite_false, if_true, if_false, Nat.reduceEqDiff, reduceIte, e1, y]
      repeat' (first | intro _ | refine And.intro ?_ ?_)
      all_goals first | omega | exact nx
    · have nx := ih (p + 1) σ1 (by omega) (by omega) h1 (fun q q0 q1 => by
        have := h2 q q0 q1
        by_cases z : q = p
        · rw [z, e1, if_neg y]; exact ⟨fun _ => rfl, fun w => by omega⟩
        · exact ⟨fun w => this.1 (by omega), fun w => this.2 (by omega)⟩) hK
      simp only [s119_51, s119_53, s119_56, s119_57, s119_60, s119_62, s119_63, s119_65, s119_76, s119_79, Int.reduceToNat, Int.reducePow, Nat.reducePow, Int.reduceLE, Int.reduceLT, Int.reduceNeg, Int.reduceEq, Int.reduceNe, Int.reduceAdd, Int.reduceSub, Int.reduceMul, and_self, sx_push, tf, List.length_cons, List.length_nil, Option.some.injEq, exists_eq_left', Nat.reduceAdd, Nat.reduceLeDiff, true_and, and_true, true_or, or_true, Int.zero_add, Nat.zero_le, eq_self, ne_eq, not_true_eq_false, not_false_eq_true, false_implies, true_implies, implies_true, b2i_0, b2i_1, b2i_01, up_sc, sc_at, sc_sc, ite_true, ite_false, if_true, if_false, Nat.reduceEqDiff, reduceIte, e1]
      repeat' (first | intro _ | refine And.intro ?_ ?_)
      all_goals first | omega | contradiction | exact nx
theorem x119 {a b : Int} {g : Int → Int} (a0 : 0 ≤ a) (a1 : a < 40) (b0 : 0 ≤ b) (b1 : b < 40) (hg : gAg (σ 136) g) (hK : ∀ σ', (∀ q, q ≠ 136 → σ' q = σ q) → gAg (σ' 136) (jn g a b) → K none (T0 n) σ') : Rn 119 0 [some (vR 133), some (vI a), some (vI b), none, none, none] [] (T0 n) σ K := by
  have ea := hg a a0 a1
  have eb := hg b b0 b1
  have nx := x119l (n := n) (K := K) (σ := σ) (a := a) (b := b) (lo := min (g a) (g b)) (hi := max (g a) (g b)) 40 0 σ (by omega) (by omega) (fun _ _ => rfl) (fun q q0 q1 => ⟨fun w => by omega, fun _ => rfl⟩) (fun σ' f1 f2 => hK σ' f1 (fun q q0 q1 => by rw [f2 q q0 q1, hg q q0 q1]; rfl))
  simp only [s119_0, s119_1, s119_3, s119_6, s119_7, s119_9, s119_13, s119_14, s119_17, s119_18, s119_19, s119_20, s119_23, s119_24, s119_25, s119_28, s119_29, s119_30, s119_33, s119_34, s119_35, s119_36, s119_39, s119_40, s119_41, s119_44, s119_46, s119_47, Int.reduceToNat, Int.reducePow, Nat.reducePow, Int.reduceLE, Int.reduceLT, Int.reduceNeg, Int.reduceEq, Int.reduceNe, Int.reduceAdd, Int.reduceSub, Int.reduceMul, and_self, sx_push, tf, List.length_cons, List.length_nil, Option.some.injEq, exists_eq_left', Nat.reduceAdd, Nat.reduceLeDiff, true_and, and_true, true_or, or_true, Int.zero_add, Nat.zero_le, eq_self, ne_eq, not_true_eq_false, not_false_eq_true, false_implies, true_implies, implies_true, b2i_0, b2i_1, b2i_01, up_sc, sc_at, sc_sc, ite_true, ite_false, if_true, if_false, Nat.reduceEqDiff, reduceIte, ea, eb]
  repeat' (first | intro _ | refine And.intro ?_ ?_)
  all_goals first | omega | exact nx
theorem x118i {len : Int} : ∀ (k : Nat) (p : Int) (σ1 : sxS), p + k = 40 → 0 ≤ p → (∀ q, q ≠ 136 → σ1 q = σ q) → (∀ q, 0 ≤ q → q < p → σ1 136 q = q) → (∀ σ', (∀ q, q ≠ 136 → σ' q = σ q) → gAg (σ' 136) (fun p => p) → Rn 118 25 [some (vR 133), some (vI len), some (vI 40)] [] (T0 n) σ' K) → Rn 118 6 [some (vR 133), some (vI len), some (vI p)] [] (T0 n) σ1 K := by
  intro k
  induction k with
  | zero =>
    intro p σ1 hp p0 h1 h2 hK
    obtain rfl : p = 40 := by omega
    have nx := hK σ1 h1 h2
    rw [s118_6]
    simp only [s118_7, s118_9, Int.reduceToNat, Int.reducePow, Nat.reducePow, Int.reduceLE, Int.reduceLT, Int.reduceNeg, Int.reduceEq, Int.reduceNe, Int.reduceAdd, Int.reduceSub, Int.reduceMul, and_self, sx_push, tf, List.length_cons, List.length_nil, Option.some.injEq, exists_eq_left', Nat.reduceAdd, Nat.reduceLeDiff, true_and, and_true, true_or, or_true, Int.zero_add, Nat.zero_le, eq_self, ne_eq, not_true_eq_false, not_false_eq_true, false_implies, true_implies, implies_true, b2i_0, b2i_1, b2i_01, up_sc, sc_at, sc_sc, ite_true, ite_false, if_true, if_false, Nat.reduceEqDiff, reduceIte]
    repeat' (first | intro _ | refine And.intro ?_ ?_)
    all_goals first | omega | exact nx
  | succ k ih =>
    intro p σ1 hp p0 h1 h2 hK
    have nx := ih (p + 1) (sc σ1 136 (up1 (σ1 136) p p)) (by omega) (by omega) (fun q hq => by rw [sc_at, if_neg hq, h1 q hq]) (fun q q0 q1 => by
      rw [sc_at, if_pos rfl]
      by_cases z : q = p
      · rw [z, up1_s]
      · rw [up1_n z]; exact h2 q q0 (by omega)) hK
    rw [s118_6]
    simp only [s118_7, s118_9, s118_12, s118_13, s118_16, s118_17, s118_18, s118_19, s118_22, Int.reduceToNat, Int.reducePow, Nat.reducePow, Int.reduceLE, Int.reduceLT, Int.reduceNeg, Int.reduceEq, Int.reduceNe, Int.reduceAdd, Int.reduceSub, Int.reduceMul, and_self, sx_push, tf, List.length_cons, List.length_nil, Option.some.injEq, exists_eq_left', Nat.reduceAdd, Nat.reduceLeDiff, true_and, and_true, true_or, or_true, Int.zero_add, Nat.zero_le, eq_self, ne_eq, not_true_eq_false, not_false_eq_true, false_implies, true_implies, implies_true, b2i_0, b2i_1, b2i_01, up_sc, sc_at, sc_sc, ite_true, ite_false, if_true, if_false, Nat.reduceEqDiff, reduceIte]
    repeat' (first | intro _ | refine And.intro ?_ ?_)
    all_goals first | omega | exact nx
theorem x118l (hw : wfc f) {len m : Int} {lk : Int → Int} (m1 : m < 40) (he : ∀ j, 0 ≤ j → j < m → edg f (lk j)) : ∀ (k : Nat) (i : Int) (g : Int → Int) (σ : sxS), i + k = m → 0 ≤ i → σ 133 8 = m → σ 135 = lk → gAg (σ 136) g → (∀ σ', (∀ q, q ≠ 136 → σ' q = σ q) → gAg (σ' 136) (mgF len (arK lk k i) g) → K none (T0 n) σ') → Rn 118 27 [some (vR 133), some (vI len), some (vI i)] [] (T0 n) σ K := by
  intro k
  induction k with
  | zero =>
    intro i g σ hi i0 h8 h135 hg hK
    have hK := hK σ (fun _ _ => rfl) hg
    rw [s118_27]
    simp only [s118_28, s118_29, s118_32, s118_79, Int.reduceToNat, Int.reducePow, Nat.reducePow, Int.reduceLE, Int.reduceLT, Int.reduceNeg, Int.reduceEq, Int.reduceNe, Int.reduceAdd, Int.reduceSub, Int.reduceMul, and_self, sx_push, tf, List.length_cons, List.length_nil, Option.some.injEq, exists_eq_left', Nat.reduceAdd, Nat.reduceLeDiff, true_and, and_true, true_or, or_true, Int.zero_add, Nat.zero_le, eq_self, ne_eq, not_true_eq_false, not_false_eq_true, false_implies, true_implies, implies_true, b2i_0, b2i_1, b2i_01, up_sc, sc_at, sc_sc, ite_true, ite_false, if_true, if_false, Nat.reduceEqDiff, reduceIte, h8]
    repeat' (first | intro _ | refine And.intro ?_ ?_)
    all_goals first | omega | exact hK
  | succ k ih =>
    intro i g σ hi i0 h8 h135 hg hK
    have e := he i i0 (by omega)
    obtain ⟨a, b, d, ew, ha, hb, hd, ta, tb, hab, e1, e2, e3⟩ := edg_x hw e
    have xx := fun q K => x110w (n := n) (σ := σ) (K := K) hw (q := q) e
    have x0 := fun K => xx 0 K
    have x1 := fun K => xx 1 K
    have x2 := fun K => xx 2 K
    rw [if_pos rfl, e1] at x0
    rw [if_neg (by decide), if_pos rfl, e2] at x1
    rw [if_neg (by decide), if_neg (by decide), e3] at x2
    have hl : σ 135 i = lk i := by rw [h135]
    rw [s118_27]
    by_cases y : d ≤ len
    · have jo : Rn 119 0 [some (vR 133), some (vI a), some (vI b), none, none, none] [] (T0 n) σ (fun r T' σ' => Rn 118 73 [some (vR 133), some (vI len), some (vI i)] (sx_push r []) T' σ' K) := by
        refine x119 ha.1 ha.2 hb.1 hb.2 hg (fun σ1 f1 f2 => ?_)
        have nx := ih (i + 1) (jn g a b) σ1 (by omega) (by omega) (by rw [f1 133 (by decide), h8]) (by rw [f1 135 (by decide), h135]) f2 (fun σ' q1 q2 => hK σ' (fun q hq => by rw [q1 q hq, f1 q hq]) (by
          show gAg (σ' 136) (if lk i / 4096 ≤ len then mgF len (arK lk k (i + 1)) (jnW g (lk i)) else mgF len (arK lk k (i + 1)) g)
          rw [if_pos (by omega)]
          unfold jnW
          rw [e1, e2]
          exact q2))
        simp only [s118_73, s118_76, Int.reduceToNat, Int.reducePow, Nat.reducePow, Int.reduceLE, Int.reduceLT, Int.reduceNeg, Int.reduceEq, Int.reduceNe, Int.reduceAdd, Int.reduceSub, Int.reduceMul, and_self, sx_push, tf, List.length_cons, List.length_nil, Option.some.injEq, exists_eq_left', Nat.reduceAdd, Nat.reduceLeDiff, true_and, and_true, true_or, or_true, Int.zero_add, Nat.zero_le, eq_self, ne_eq, not_true_eq_false, not_false_eq_true, false_implies, true_implies, implies_true, b2i_0, b2i_1, b2i_01, up_sc, sc_at, sc_sc, ite_true, ite_false, if_true, if_false, Nat.reduceEqDiff, reduceIte]
        repeat' (first | intro _ | refine And.intro ?_ ?_)
        all_goals first | omega | exact nx
      simp only [s118_28, s118_29, s118_32, s118_35, s118_36, s118_39, s118_40, s118_41, s118_42, s118_45, s118_46, s118_49, s118_50, s118_51, s118_54, s118_55, s118_56, s118_57, s118_60, s118_61, s118_64, s118_65, s118_66, s118_67, s118_70, Int.reduceToNat, Int.reducePow, Nat.reducePow, Int.reduceLE, Int.reduceLT, Int.reduceNeg, Int.reduceEq, Int.reduceNe, Int.reduceAdd, Int.reduceSub, Int.reduceMul, and_self, sx_push, tf, List.length_cons, List.length_nil, Option.some.injEq, exists_eq_left', Nat.reduceAdd, Nat.reduceLeDiff, true_and, and_true, true_or, or_true, Int.zero_add, Nat.zero_le, eq_self, ne_eq, not_true_eq_false, not_false_eq_true, false_implies, true_implies, implies_true, b2i_0, b2i_1, b2i_01, up_sc, sc_at, sc_sc, ite_true, ite_false, if_true, if_false, Nat.reduceEqDiff, reduceIte, h8, hl, x0, x1, x2]
      repeat' (first | intro _ | refine And.intro ?_ ?_)
      all_goals first | omega | exact jo
    · have nx := ih (i + 1) g σ (by omega) (by omega) h8 h135 hg (fun σ' q1 q2 => hK σ' q1 (by
        show gAg (σ' 136) (if lk i / 4096 ≤ len then mgF len (arK lk k (i + 1)) (jnW g (lk i)) else mgF len (arK lk k (i + 1)) g)
        rw [if_neg (by omega)]
        exact q2))
      simp only [s118_28, s118_29, s118_32, s118_35, s118_36, s118_39, s118_40, s118_41, s118_42, s118_45, s118_46, s118_73, s118_76, Int.reduceToNat, Int.reducePow, Nat.reducePow, Int.reduceLE, Int.reduceLT, Int.reduceNeg, Int.reduceEq, Int.reduceNe, Int.reduceAdd, Int.reduceSub, Int.reduceMul, and_self, sx_push, tf, List.length_cons, List.length_nil, Option.some.injEq, exists_eq_left', Nat.reduceAdd, Nat.reduceLeDiff, true_and, and_true, true_or, or_true, Int.zero_add, Nat.zero_le, eq_self, ne_eq, not_true_eq_false, not_false_eq_true, false_implies, true_implies, implies_true, b2i_0, b2i_1, b2i_01, up_sc, sc_at, sc_sc, ite_true, ite_false, if_true, if_false, Nat.reduceEqDiff, reduceIte, h8, hl, x2]
      repeat' (first | intro _ | refine And.intro ?_ ?_)
      all_goals first | omega | exact nx
theorem x118 {len : Int} (hA : rA σ 7 f) (hi : invF f) (hK : ∀ σ' lk m, (∀ q, q ≠ 133 → q ≠ 135 → q ≠ 136 → q ≠ 138 → q ≠ 140 → σ' q = σ q) → jaP f lk m → gAg (σ' 136) (mgF len (arK lk m.toNat 0) (fun p => p)) → K none (T0 n) σ') : Rn 118 0 [some (vR 133), some (vI len), none] [] (T0 n) σ K := by
  have go : Rn 113 0 [some (vR 133), none, none] [] (T0 n) σ (fun r T' σ' => Rn 118 4 [some (vR 133), some (vI len), none] (sx_push r []) T' σ' K) := by
    refine x113 hA hi (fun σ1 f1 f2 => ?_)
    have init : Rn 118 6 [some (vR 133), some (vI len), some (vI 0)] [] (T0 n) σ1 K := by
      refine x118i (σ := σ1) 40 0 σ1 (by omega) (by omega) (fun _ _ => rfl) (fun q q0 q1 => by omega) (fun σ2 g1 g2 => ?_)
      have lp : Rn 118 27 [some (vR 133), some (vI len), some (vI 0)] [] (T0 n) σ2 K := by
        refine x118l (m := σ1 133 8) (lk := σ1 135) hi.2.1 f2.1.2 (fun j j0 j1 => by
          have := incM_at _ 0 (-1) f2.2.2 j j0 (by omega)
          rw [Int.zero_add] at this; exact this) (σ1 133 8).toNat 0 _ σ2 (by have := f2.1.1; omega) (by omega) (by rw [g1 133 (by decide)]) (g1 135 (by decide)) g2 (fun σ3 q1 q2 => ?_)
        exact hK σ3 _ _ (fun q a b d e g => by rw [q1 q d, g1 q d, f1.1 q a b e g]) f2 q2
      simp only [s118_25, s118_26, Int.reduceToNat, Int.reducePow, Nat.reducePow, Int.reduceLE, Int.reduceLT, Int.reduceNeg, Int.reduceEq, Int.reduceNe, Int.reduceAdd, Int.reduceSub, Int.reduceMul, and_self, sx_push, tf, List.length_cons, List.length_nil, Option.some.injEq, exists_eq_left', Nat.reduceAdd, Nat.reduceLeDiff, true_and, and_true, true_or, or_true, Int.zero_add, Nat.zero_le, eq_self, ne_eq, not_true_eq_false, not_false_eq_true, false_implies, true_implies, implies_true, b2i_0, b2i_1, b2i_01, up_sc, sc_at, sc_sc, ite_true, ite_false, if_true, if_false, Nat.reduceEqDiff, reduceIte]
      repeat' (first | intro _ | refine And.intro ?_ ?_)
      all_goals first | omega | exact lp
    simp only [s118_4, s118_5, Int.reduceToNat, Int.reducePow, Nat.reducePow, Int.reduceLE, Int.reduceLT, Int.reduceNeg, Int.reduceEq, Int.reduceNe, Int.reduceAdd, Int.reduceSub, Int.reduceMul, and_self, sx_push, tf, List.length_cons, List.length_nil, Option.some.injEq, exists_eq_left', Nat.reduceAdd, Nat.reduceLeDiff, true_and, and_true, true_or, or_true, Int.zero_add, Nat.zero_le, eq_self, ne_eq, not_true_eq_false, not_false_eq_true, false_implies, true_implies, implies_true, b2i_0, b2i_1, b2i_01, up_sc, sc_at, sc_sc, ite_true, ite_false, if_true, if_false, Nat.reduceEqDiff, reduceIte]
    repeat' (first | intro _ | refine And.intro ?_ ?_)
    all_goals first | omega | exact init
  simp only [s118_0, s118_1, Int.reduceToNat, Int.reducePow, Nat.reducePow, Int.reduceLE, Int.reduceLT, Int.reduceNeg, Int.reduceEq, Int.reduceNe, Int.reduceAdd, Int.reduceSub, Int.reduceMul, and_self, sx_push, tf, List.length_cons, List.length_nil, Option.some.injEq, exists_eq_left', Nat.reduceAdd, Nat.reduceLeDiff, true_and, and_true, true_or, or_true, Int.zero_add, Nat.zero_le, eq_self, ne_eq, not_true_eq_false, not_false_eq_true, false_implies, true_implies, implies_true, b2i_0, b2i_1, b2i_01, up_sc, sc_at, sc_sc, ite_true, ite_false, if_true, if_false, Nat.reduceEqDiff, reduceIte]
  repeat' (first | intro _ | refine And.intro ?_ ?_)
  all_goals first | omega | exact go
theorem x121l (hr : rL σ 7 f) {g : Int → Int} (hg : gAg (σ 136) g) : ∀ (k : Nat) (p a : Int), p + k = 40 → 0 ≤ p → 0 ≤ a → a ≤ p → K (some (vI (cntF (rp f g) k p a))) (T0 n) σ → Rn 121 4 [some (vR 133), some (vI a), some (vI p)] [] (T0 n) σ K := by
  intro k
  induction k with
  | zero =>
    intro p a hp p0 a0 a1 hK
    rw [s121_4]
    simp only [s121_5, s121_7, s121_40, s121_41, Int.reduceToNat, Int.reducePow, Nat.reducePow, Int.reduceLE, Int.reduceLT, Int.reduceNeg, Int.reduceEq, Int.reduceNe, Int.reduceAdd, Int.reduceSub, Int.reduceMul, and_self, sx_push, tf, List.length_cons, List.length_nil, Option.some.injEq, exists_eq_left', Nat.reduceAdd, Nat.reduceLeDiff, true_and, and_true, true_or, or_true, Int.zero_add, Nat.zero_le, eq_self, ne_eq, not_true_eq_false, not_false_eq_true, false_implies, true_implies, implies_true, b2i_0, b2i_1, b2i_01, up_sc, sc_at, sc_sc, ite_true, ite_false, if_true, if_false, Nat.reduceEqDiff, reduceIte]
    repeat' (first | intro _ | refine And.intro ?_ ?_)
    all_goals first | omega | exact hK
  | succ k ih =>
    intro p a hp p0 a0 a1 hK
    have ge := hg p p0 (by omega)
    unfold cntF at hK
    rw [s121_4]
    by_cases y : f p = 1 ∧ g p = p
    · have e : rp f g p = 1 := if_pos y
      rw [e] at hK
      have nx := ih (p + 1) (a + 1) (by omega) (by omega) (by omega) (by omega) hK
      have y2 := y.2
      simp only [s121_5, s121_7, s121_10, s121_11, s121_14, s121_15, s121_18, s121_21, s121_22, s121_25, s121_26, s121_27, s121_28, s121_31, s121_34, s121_37, Int.reduceToNat, Int.reducePow, Nat.reducePow, Int.reduceLE, Int.reduceLT, Int.reduceNeg, Int.reduceEq, Int.reduceNe, Int.reduceAdd, Int.reduceSub, Int.reduceMul, and_self, sx_push, tf, List.length_cons, List.length_nil, Option.some.injEq, exists_eq_left', Nat.reduceAdd, Nat.reduceLeDiff, true_and, and_true, true_or, or_true, Int.zero_add, Nat.zero_le, eq_self, ne_eq, not_true_eq_false, not_false_eq_true, false_implies, true_implies, implies_true, b2i_0, b2i_1, b2i_01, up_sc, sc_at, sc_sc, ite_true, ite_false, if_true, if_false, Nat.reduceEqDiff, reduceIte, x49 isP7 hr, ge, y2]
      repeat' (first | intro _ | refine And.intro ?_ ?_)
      all_goals first | omega | exact nx
    · have e : rp f g p = 0 := if_neg y
      rw [e, Int.add_zero] at hK
      have nx := ih (p + 1) a (by omega) (by omega) (by omega) (by omega) hK
      by_cases y1 : f p = 1
      · have y2 : g p ≠ p := fun z => y ⟨y1, z⟩
        simp only [s121_5, s121_7, s121_10, s121_11, s121_14, s121_15, s121_18, s121_21, s121_22, s121_25, s121_26, s121_27, s121_28, s121_34, s121_37, Int.reduceToNat, Int.reducePow, Nat.reducePow, Int.reduceLE, Int.reduceLT, Int.reduceNeg, Int.reduceEq, Int.reduceNe, Int.reduceAdd, Int.reduceSub, Int.reduceMul, and_self, sx_push, tf, List.length_cons, List.length_nil, Option.some.injEq, exists_eq_left', Nat.reduceAdd, Nat.reduceLeDiff, true_and, and_true, true_or, or_true, Int.zero_add, Nat.zero_le, eq_self, ne_eq, not_true_eq_false, not_false_eq_true, false_implies, true_implies, implies_true, b2i_0, b2i_1, b2i_01, up_sc, sc_at, sc_sc, ite_true, ite_false, if_true, if_false, Nat.reduceEqDiff, reduceIte, x49 isP7 hr, ge]
        repeat' (first | intro _ | refine And.intro ?_ ?_)
        all_goals first | omega | contradiction | exact nx
      · simp only [s121_5, s121_7, s121_10, s121_11, s121_14, s121_15, s121_18, s121_34, s121_37, Int.reduceToNat, Int.reducePow, Nat.reducePow, Int.reduceLE, Int.reduceLT, Int.reduceNeg, Int.reduceEq, Int.reduceNe, Int.reduceAdd, Int.reduceSub, Int.reduceMul, and_self, sx_push, tf, List.length_cons, List.length_nil, Option.some.injEq, exists_eq_left', Nat.reduceAdd, Nat.reduceLeDiff, true_and, and_true, true_or, or_true, Int.zero_add, Nat.zero_le, eq_self, ne_eq, not_true_eq_false, not_false_eq_true, false_implies, true_implies, implies_true, b2i_0, b2i_1, b2i_01, up_sc, sc_at, sc_sc, ite_true, ite_false, if_true, if_false, Nat.reduceEqDiff, reduceIte, x49 isP7 hr]
        repeat' (first | intro _ | refine And.intro ?_ ?_)
        all_goals first | omega | exact nx
theorem x121 (hr : rL σ 7 f) {g : Int → Int} (hg : gAg (σ 136) g) : Rn 121 0 [some (vR 133), none, none] [] (T0 n) σ K ↔ K (some (vI (cntF (rp f g) 40 0 0))) (T0 n) σ := by
  refine Rn_iff fun K hK => ?_
  have nx := x121l (n := n) (K := K) hr hg 40 0 0 (by omega) (by omega) (by omega) (by omega) hK
  simp only [s121_0, s121_1, s121_2, s121_3, Int.reduceToNat, Int.reducePow, Nat.reducePow, Int.reduceLE, Int.reduceLT, Int.reduceNeg, Int.reduceEq, Int.reduceNe, Int.reduceAdd, Int.reduceSub, Int.reduceMul, and_self, sx_push, tf, List.length_cons, List.length_nil, Option.some.injEq, exists_eq_left', Nat.reduceAdd, Nat.reduceLeDiff, true_and, and_true, true_or, or_true, Int.zero_add, Nat.zero_le, eq_self, ne_eq, not_true_eq_false, not_false_eq_true, false_implies, true_implies, implies_true, b2i_0, b2i_1, b2i_01, up_sc, sc_at, sc_sc, ite_true, ite_false, if_true, if_false, Nat.reduceEqDiff, reduceIte]
  repeat' (first | intro _ | refine And.intro ?_ ?_)
  all_goals first | omega | exact nx
/-- the reference, its groups at a length -/
theorem x246g {lk : Int → Int} {m len : Int} (h150 : σ 150 = f) (h01 : th01 f) (hw : wfc f) (hj : jaP f lk m) (hK : ∀ σ' v, (∀ q, q ≠ 164 → q ≠ 165 → σ' q = σ q) → gAg (σ' 164) (mgF len (arK lk m.toNat 0) (fun p => p)) → cntF (rp f (mgF len (arK lk m.toNat 0) (fun p => p))) 40 0 0 + v = cntF f 40 0 0 → (0 ≤ v ∧ v ≤ 40) → K (some (vI v)) (T0 n) σ') : Rn 246 0 [some (vR 149), some (vI len), none, none, none, none, none, none, none] [] (T0 n) σ K := by
  obtain ⟨j1, j2, j3⟩ := hj
  refine x246 (L0 := arK lk m.toNat 0) (m := m) h150 h01 hw (by rw [arK_len]; omega) j1.2 j2 j3 (fun σ2 l1 l2 lo g f1 f2 f3 => ?_)
  obtain ⟨p1, p2, p3, p4, p5⟩ := f2
  have e := mgF_st p2 p5 f3
  rw [p1] at e
  have ln : (l1.length : Int) ≤ m := by
    have := congrArg List.length p1
    rw [List.length_append, arK_len] at this
    omega
  refine hK σ2 _ f1 (by rw [e]; exact p3) (by rw [e]; exact kSt_cnt h01 hw p2) (by omega)
theorem cl27 {p len : Int} : call2 n c 117 247 [some (vR 1), some (vI p), some (vI len)] [some (vR 149), some (vI p), some (vI len)] := fun σ h => by
  have h' := h
  obtain ⟨hP, hO, hM, hH, hT, hR, hS, hF, hQ, hV, hI, hG, hW⟩ := h'
  by_cases e : ((0 ≤ p ∧ p < 40) ∧ σ 150 p = 1) ∧ (0 ≤ len ∧ len ≤ 999)
  · have cl : ∀ K : Option sxV → sxT → sxS → Prop, (∀ σ' lk m, (∀ q, q ≠ 133 → q ≠ 135 → q ≠ 136 → q ≠ 138 → q ≠ 140 → σ' q = σ q) → jaP (σ 150) lk m → K (some (vI (mgF len (arK lk m.toNat 0) (fun p => p) p))) (T0 n) σ') → Rn 117 0 [some (vR 1), some (vI p), some (vI len)] [] (T0 n) σ K := fun K hK => by
      have go : Rn 118 0 [some (vR 133), some (vI len), none] [] (T0 n) σ (fun r T' σ' => Rn 117 28 [some (vR 1), some (vI p), some (vI len)] (sx_push r []) T' σ' K) := by
        refine x118 hP.1 hO.1 (fun σ1 lk m f1 f2 f3 => ?_)
        have hK := hK σ1 lk m f1 f2
        have ep := f3 p e.1.1.1 e.1.1.2
        rw [← ep] at hK
        simp only [s117_28, s117_29, s117_32, s117_35, s117_36, s117_37, Int.reduceToNat, Int.reducePow, Nat.reducePow, Int.reduceLE, Int.reduceLT, Int.reduceNeg, Int.reduceEq, Int.reduceNe, Int.reduceAdd, Int.reduceSub, Int.reduceMul, and_self, sx_push, tf, List.length_cons, List.length_nil, Option.some.injEq, exists_eq_left', Nat.reduceAdd, Nat.reduceLeDiff, true_and, and_true, true_or, or_true, Int.zero_add, Nat.zero_le, eq_self, ne_eq, not_true_eq_false, not_false_eq_true, false_implies, true_implies, implies_true, b2i_0, b2i_1, b2i_01, up_sc, sc_at, sc_sc, ite_true, ite_false, if_true, if_false, Nat.reduceEqDiff, reduceIte]
        repeat' (first | intro _ | refine And.intro ?_ ?_)
        all_goals first | omega | exact hK
      simp only [s117_0, s117_1, s117_4, s117_5, s117_8, s117_11, s117_12, s117_15, s117_20, s117_21, s117_24, s117_25, Int.reduceToNat, Int.reducePow, Nat.reducePow, Int.reduceLE, Int.reduceLT, Int.reduceNeg, Int.reduceEq, Int.reduceNe, Int.reduceAdd, Int.reduceSub, Int.reduceMul, and_self, sx_push, tf, List.length_cons, List.length_nil, Option.some.injEq, exists_eq_left', Nat.reduceAdd, Nat.reduceLeDiff, true_and, and_true, true_or, or_true, Int.zero_add, Nat.zero_le, eq_self, ne_eq, not_true_eq_false, not_false_eq_true, false_implies, true_implies, implies_true, b2i_0, b2i_1, b2i_01, up_sc, sc_at, sc_sc, ite_true, ite_false, if_true, if_false, Nat.reduceEqDiff, reduceIte, x49 isP7 hP.1.1, x88]
      repeat' (first | intro _ | refine And.intro ?_ ?_)
      all_goals first | omega | exact go
    refine cl _ (fun σ1 lk m f1 f2 => ⟨rfl, _, rfl, ?_⟩)
    have rf : ∀ K : Option sxV → sxT → sxS → Prop, (∀ σ', (∀ q, q ≠ 164 → q ≠ 165 → σ' q = σ1 q) → K (some (vI (mgF len (arK lk m.toNat 0) (fun p => p) p))) (T0 n) σ') → Rn 247 0 [some (vR 149), some (vI p), some (vI len)] [] (T0 n) σ1 K := fun K hK => by
      have h150 : σ1 150 = σ 150 := f1 150 (by decide) (by decide) (by decide) (by decide) (by decide)
      have go : Rn 246 0 [some (vR 149), some (vI len), none, none, none, none, none, none, none] [] (T0 n) σ1 (fun r T' σ' => Rn 247 26 [some (vR 149), some (vI p), some (vI len)] (sx_push r []) T' σ' K) := by
        refine x246g h150 hO.1.1 hO.1.2.1 f2 (fun σ2 v g1 g2 g3 g4 => ?_)
        have hK := hK σ2 g1
        have ep := g2 p e.1.1.1 e.1.1.2
        rw [← ep] at hK
        simp only [s247_26, s247_27, s247_28, s247_31, s247_32, s247_33, Int.reduceToNat, Int.reducePow, Nat.reducePow, Int.reduceLE, Int.reduceLT, Int.reduceNeg, Int.reduceEq, Int.reduceNe, Int.reduceAdd, Int.reduceSub, Int.reduceMul, and_self, sx_push, tf, List.length_cons, List.length_nil, Option.some.injEq, exists_eq_left', Nat.reduceAdd, Nat.reduceLeDiff, true_and, and_true, true_or, or_true, Int.zero_add, Nat.zero_le, eq_self, ne_eq, not_true_eq_false, not_false_eq_true, false_implies, true_implies, implies_true, b2i_0, b2i_1, b2i_01, up_sc, sc_at, sc_sc, ite_true, ite_false, if_true, if_false, Nat.reduceEqDiff, reduceIte]
        repeat' (first | intro _ | refine And.intro ?_ ?_)
        all_goals first | omega | exact hK
      simp only [s247_0, s247_1, s247_2, s247_5, s247_8, s247_9, s247_10, s247_13, s247_16, s247_21, s247_22, s247_23, Int.reduceToNat, Int.reducePow, Nat.reducePow, Int.reduceLE, Int.reduceLT, Int.reduceNeg, Int.reduceEq, Int.reduceNe, Int.reduceAdd, Int.reduceSub, Int.reduceMul, and_self, sx_push, tf, List.length_cons, List.length_nil, Option.some.injEq, exists_eq_left', Nat.reduceAdd, Nat.reduceLeDiff, true_and, and_true, true_or, or_true, Int.zero_add, Nat.zero_le, eq_self, ne_eq, not_true_eq_false, not_false_eq_true, false_implies, true_implies, implies_true, b2i_0, b2i_1, b2i_01, up_sc, sc_at, sc_sc, ite_true, ite_false, if_true, if_false, Nat.reduceEqDiff, reduceIte, x205, x185, h150]
      repeat' (first | intro _ | refine And.intro ?_ ?_)
      all_goals first | omega | exact go
    refine rf _ (fun σ2 g1 => ?_)
    have qq : ∀ q, q ≠ 133 → q ≠ 135 → q ≠ 136 → q ≠ 138 → q ≠ 140 → q ≠ 164 → q ≠ 165 → σ2 q = σ q := fun q a b d e g i j => by rw [g1 q i j, f1 q a b d e g]
    exact ⟨rfl, rfl, Rel_lk h qq, qq 0 (by decide) (by decide) (by decide) (by decide) (by decide) (by decide) (by decide)⟩
  · have cl : ∀ K : Option sxV → sxT → sxS → Prop, K (some (vI (-1))) (T0 n) σ → Rn 117 0 [some (vR 1), some (vI p), some (vI len)] [] (T0 n) σ K := fun K hK => by
      simp only [s117_0, s117_1, s117_4, s117_5, s117_8, s117_11, s117_12, s117_15, s117_18, s117_19, Int.reduceToNat, Int.reducePow, Nat.reducePow, Int.reduceLE, Int.reduceLT, Int.reduceNeg, Int.reduceEq, Int.reduceNe, Int.reduceAdd, Int.reduceSub, Int.reduceMul, and_self, sx_push, tf, List.length_cons, List.length_nil, Option.some.injEq, exists_eq_left', Nat.reduceAdd, Nat.reduceLeDiff, true_and, and_true, true_or, or_true, Int.zero_add, Nat.zero_le, eq_self, ne_eq, not_true_eq_false, not_false_eq_true, false_implies, true_implies, implies_true, b2i_0, b2i_1, b2i_01, up_sc, sc_at, sc_sc, ite_true, ite_false, if_true, if_false, Nat.reduceEqDiff, reduceIte, x49 isP7 hP.1.1, x88]
      repeat' (first | intro _ | refine And.intro ?_ ?_)
      all_goals first | omega | exact hK
    have rf : ∀ K : Option sxV → sxT → sxS → Prop, K (some (vI (-1))) (T0 n) σ → Rn 247 0 [some (vR 149), some (vI p), some (vI len)] [] (T0 n) σ K := fun K hK => by
      simp only [s247_0, s247_1, s247_2, s247_5, s247_8, s247_9, s247_10, s247_13, s247_16, s247_19, s247_20, Int.reduceToNat, Int.reducePow, Nat.reducePow, Int.reduceLE, Int.reduceLT, Int.reduceNeg, Int.reduceEq, Int.reduceNe, Int.reduceAdd, Int.reduceSub, Int.reduceMul, and_self, sx_push, tf, List.length_cons, List.length_nil, Option.some.injEq, exists_eq_left', Nat.reduceAdd, Nat.reduceLeDiff, true_and, and_true, true_or, or_true, Int.zero_add, Nat.zero_le, eq_self, ne_eq, not_true_eq_false, not_false_eq_true, false_implies, true_implies, implies_true, b2i_0, b2i_1, b2i_01, up_sc, sc_at, sc_sc, ite_true, ite_false, if_true, if_false, Nat.reduceEqDiff, reduceIte, x205, x185]
      repeat' (first | intro _ | refine And.intro ?_ ?_)
      all_goals first | omega | exact hK
    exact cl _ ⟨rfl, _, rfl, rf _ ⟨rfl, rfl, Rel_w h (by omega), rfl⟩⟩
theorem cl28 {len : Int} : call2 n c 120 248 [some (vR 1), some (vI len)] [some (vR 149), some (vI len)] := fun σ h => by
  have h' := h
  obtain ⟨hP, hO, hM, hH, hT, hR, hS, hF, hQ, hV, hI, hG, hW⟩ := h'
  have cm := cntF_in hO.1.1 40 0 0 (by omega) (by omega)
  by_cases e : 0 ≤ len ∧ len ≤ 999
  · have cl : ∀ K : Option sxV → sxT → sxS → Prop, (∀ σ' lk m, (∀ q, q ≠ 133 → q ≠ 135 → q ≠ 136 → q ≠ 138 → q ≠ 140 → σ' q = σ q) → jaP (σ 150) lk m → K (some (vI (cntF (rp (σ 150) (mgF len (arK lk m.toNat 0) (fun p => p))) 40 0 0))) (T0 n) σ') → Rn 120 0 [some (vR 1), some (vI len)] [] (T0 n) σ K := fun K hK => by
      have go : Rn 118 0 [some (vR 133), some (vI len), none] [] (T0 n) σ (fun r T' σ' => Rn 120 17 [some (vR 1), some (vI len)] (sx_push r []) T' σ' K) := by
        refine x118 hP.1 hO.1 (fun σ1 lk m f1 f2 f3 => ?_)
        have hK := hK σ1 lk m f1 f2
        have hr1 : rL σ1 7 (σ 150) := rL_7k hP.1.1 (fun k k0 k1 => f1 k (by omega) (by omega) (by omega) (by omega) (by omega))
        have w := fun K => x121 (n := n) (σ := σ1) (K := K) hr1 f3
        simp only [s120_17, s120_18, s120_21, s120_24, Int.reduceToNat, Int.reducePow, Nat.reducePow, Int.reduceLE, Int.reduceLT, Int.reduceNeg, Int.reduceEq, Int.reduceNe, Int.reduceAdd, Int.reduceSub, Int.reduceMul, and_self, sx_push, tf, List.length_cons, List.length_nil, Option.some.injEq, exists_eq_left', Nat.reduceAdd, Nat.reduceLeDiff, true_and, and_true, true_or, or_true, Int.zero_add, Nat.zero_le, eq_self, ne_eq, not_true_eq_false, not_false_eq_true, false_implies, true_implies, implies_true, b2i_0, b2i_1, b2i_01, up_sc, sc_at, sc_sc, ite_true, ite_false, if_true, if_false, Nat.reduceEqDiff, reduceIte, w]
        first | exact hK | (repeat' (first | intro _ | refine And.intro ?_ ?_) <;> first | omega | exact hK)
      simp only [s120_0, s120_1, s120_4, s120_9, s120_10, s120_13, s120_14, Int.reduceToNat, Int.reducePow, Nat.reducePow, Int.reduceLE, Int.reduceLT, Int.reduceNeg, Int.reduceEq, Int.reduceNe, Int.reduceAdd, Int.reduceSub, Int.reduceMul, and_self, sx_push, tf, List.length_cons, List.length_nil, Option.some.injEq, exists_eq_left', Nat.reduceAdd, Nat.reduceLeDiff, true_and, and_true, true_or, or_true, Int.zero_add, Nat.zero_le, eq_self, ne_eq, not_true_eq_false, not_false_eq_true, false_implies, true_implies, implies_true, b2i_0, b2i_1, b2i_01, up_sc, sc_at, sc_sc, ite_true, ite_false, if_true, if_false, Nat.reduceEqDiff, reduceIte, x88]
      repeat' (first | intro _ | refine And.intro ?_ ?_)
      all_goals first | omega | exact go
    refine cl _ (fun σ1 lk m f1 f2 => ⟨rfl, _, rfl, ?_⟩)
    have h150 : σ1 150 = σ 150 := f1 150 (by decide) (by decide) (by decide) (by decide) (by decide)
    have rf : ∀ K : Option sxV → sxT → sxS → Prop, (∀ σ', (∀ q, q ≠ 164 → q ≠ 165 → σ' q = σ1 q) → K (some (vI (cntF (rp (σ 150) (mgF len (arK lk m.toNat 0) (fun p => p))) 40 0 0))) (T0 n) σ') → Rn 248 0 [some (vR 149), some (vI len)] [] (T0 n) σ1 K := fun K hK => by
      have go : Rn 246 0 [some (vR 149), some (vI len), none, none, none, none, none, none, none] [] (T0 n) σ1 (fun r T' σ' => Rn 248 20 [some (vR 149), some (vI len)] (sx_push r [vI (cntF (σ 150) 40 0 0)]) T' σ' K) := by
        refine x246g h150 hO.1.1 hO.1.2.1 f2 (fun σ2 v g1 g2 g3 g4 => ?_)
        have hK := hK σ2 g1
        rw [show cntF (rp (σ 150) (mgF len (arK lk m.toNat 0) (fun p => p))) 40 0 0 = cntF (σ 150) 40 0 0 - v by omega] at hK
        simp only [s248_20, s248_21, s248_24, s248_25, Int.reduceToNat, Int.reducePow, Nat.reducePow, Int.reduceLE, Int.reduceLT, Int.reduceNeg, Int.reduceEq, Int.reduceNe, Int.reduceAdd, Int.reduceSub, Int.reduceMul, and_self, sx_push, tf, List.length_cons, List.length_nil, Option.some.injEq, exists_eq_left', Nat.reduceAdd, Nat.reduceLeDiff, true_and, and_true, true_or, or_true, Int.zero_add, Nat.zero_le, eq_self, ne_eq, not_true_eq_false, not_false_eq_true, false_implies, true_implies, implies_true, b2i_0, b2i_1, b2i_01, up_sc, sc_at, sc_sc, ite_true, ite_false, if_true, if_false, Nat.reduceEqDiff, reduceIte]
        repeat' (first | intro _ | refine And.intro ?_ ?_)
        all_goals first | omega | exact hK
      have w202 := fun K => x202 (n := n) (σ := σ1) (K := K) (by rw [h150]; exact hO.1.1)
      rw [h150] at w202
      simp only [s248_0, s248_1, s248_2, s248_5, s248_8, s248_11, s248_12, s248_15, s248_16, s248_17, Int.reduceToNat, Int.reducePow, Nat.reducePow, Int.reduceLE, Int.reduceLT, Int.reduceNeg, Int.reduceEq, Int.reduceNe, Int.reduceAdd, Int.reduceSub, Int.reduceMul, and_self, sx_push, tf, List.length_cons, List.length_nil, Option.some.injEq, exists_eq_left', Nat.reduceAdd, Nat.reduceLeDiff, true_and, and_true, true_or, or_true, Int.zero_add, Nat.zero_le, eq_self, ne_eq, not_true_eq_false, not_false_eq_true, false_implies, true_implies, implies_true, b2i_0, b2i_1, b2i_01, up_sc, sc_at, sc_sc, ite_true, ite_false, if_true, if_false, Nat.reduceEqDiff, reduceIte, x185, w202]
      repeat' (first | intro _ | refine And.intro ?_ ?_)
      all_goals first | omega | exact go
    refine rf _ (fun σ2 g1 => ?_)
    have qq : ∀ q, q ≠ 133 → q ≠ 135 → q ≠ 136 → q ≠ 138 → q ≠ 140 → q ≠ 164 → q ≠ 165 → σ2 q = σ q := fun q a b d e g i j => by rw [g1 q i j, f1 q a b d e g]
    exact ⟨rfl, rfl, Rel_lk h qq, qq 0 (by decide) (by decide) (by decide) (by decide) (by decide) (by decide) (by decide)⟩
  · have cl : ∀ K : Option sxV → sxT → sxS → Prop, K (some (vI (-1))) (T0 n) σ → Rn 120 0 [some (vR 1), some (vI len)] [] (T0 n) σ K := fun K hK => by
      simp only [s120_0, s120_1, s120_4, s120_7, s120_8, Int.reduceToNat, Int.reducePow, Nat.reducePow, Int.reduceLE, Int.reduceLT, Int.reduceNeg, Int.reduceEq, Int.reduceNe, Int.reduceAdd, Int.reduceSub, Int.reduceMul, and_self, sx_push, tf, List.length_cons, List.length_nil, Option.some.injEq, exists_eq_left', Nat.reduceAdd, Nat.reduceLeDiff, true_and, and_true, true_or, or_true, Int.zero_add, Nat.zero_le, eq_self, ne_eq, not_true_eq_false, not_false_eq_true, false_implies, true_implies, implies_true, b2i_0, b2i_1, b2i_01, up_sc, sc_at, sc_sc, ite_true, ite_false, if_true, if_false, Nat.reduceEqDiff, reduceIte, x88]
      repeat' (first | intro _ | refine And.intro ?_ ?_)
      all_goals first | omega | exact hK
    have rf : ∀ K : Option sxV → sxT → sxS → Prop, K (some (vI (-1))) (T0 n) σ → Rn 248 0 [some (vR 149), some (vI len)] [] (T0 n) σ K := fun K hK => by
      simp only [s248_0, s248_1, s248_2, s248_5, s248_8, s248_24, s248_25, Int.reduceToNat, Int.reducePow, Nat.reducePow, Int.reduceLE, Int.reduceLT, Int.reduceNeg, Int.reduceEq, Int.reduceNe, Int.reduceAdd, Int.reduceSub, Int.reduceMul, and_self, sx_push, tf, List.length_cons, List.length_nil, Option.some.injEq, exists_eq_left', Nat.reduceAdd, Nat.reduceLeDiff, true_and, and_true, true_or, or_true, Int.zero_add, Nat.zero_le, eq_self, ne_eq, not_true_eq_false, not_false_eq_true, false_implies, true_implies, implies_true, b2i_0, b2i_1, b2i_01, up_sc, sc_at, sc_sc, ite_true, ite_false, if_true, if_false, Nat.reduceEqDiff, reduceIte, x185]
      repeat' (first | intro _ | refine And.intro ?_ ?_)
      all_goals first | omega | exact hK
    exact cl _ ⟨rfl, _, rfl, rf _ ⟨rfl, rfl, Rel_w h (by omega), rfl⟩⟩
end L5
