/-! links: the class grows its tree -/
def arK (lk : Int → Int) : Nat → Int → List Int
  | 0, _ => []
  | k + 1, i => lk i :: arK lk k (i + 1)
theorem arK_len (lk : Int → Int) : ∀ (k : Nat) (i : Int), (arK lk k i).length = k := by
  intro k
  induction k with
  | zero => intro i; rfl
  | succ k ih => intro i; show (arK lk k (i + 1)).length + 1 = k + 1; rw [ih]
/-- rows of links as they stand -/
def lkP (f lk tk : Int → Int) (m : Int) : Prop := (∀ j, 0 ≤ j → j < m → (∃ a b, thr f a ∧ thr f b ∧ a < b ∧ lk j = wE f a b ∧ tk a = 1 ∧ tk b = 1) ∧ sep f (lk j)) ∧ ∀ i j, 0 ≤ i → i < j → j < m → lk i < lk j
theorem lkP_inc {f lk tk : Int → Int} (hw : wfc f) {m : Int} (h : lkP f lk tk m) : ∀ (k : Nat) (i lo : Int), 0 ≤ i → i + k = m → (∀ j, i ≤ j → j < m → lo < lk j) → incM f (arK lk k i) lo := by
  intro k
  induction k with
  | zero => intro i lo _ _ _; trivial
  | succ k ih =>
    intro i lo i0 hi hl
    obtain ⟨⟨a, b, ha, hb, hab, e, _, _⟩, h2⟩ := h.1 i i0 (by omega)
    exact ⟨hl i (by omega) (by omega), ⟨a, b, ha, hb, hab, e⟩, h2, ih (i + 1) (lk i) (by omega) (by omega) (fun j j0 j1 => h.2 i j i0 (by omega) j1)⟩
def jaP (f lk : Int → Int) (m : Int) : Prop := (0 ≤ m ∧ m < 40) ∧ (m + 1 = cntF f 40 0 0 ∨ (m = 0 ∧ cntF f 40 0 0 = 0)) ∧ incM f (arK lk m.toNat 0) (-1)
theorem lkP_ins {f lk lk' tk tk' : Int → Int} {m w at' : Int} (h : lkP f lk tk m) (htk : ∀ p, tk p = 1 → tk' p = 1) (a0 : 0 ≤ at') (am : at' ≤ m) (h1 : ∀ j, 0 ≤ j → j < at' → lk' j = lk j) (h2 : lk' at' = w) (h3 : ∀ j, at' ≤ j → j < m → lk' (j + 1) = lk j ∧ w < lk j) (h4 : at' = 0 ∨ lk (at' - 1) ≤ w) (hw : ∃ a b, thr f a ∧ thr f b ∧ a < b ∧ w = wE f a b ∧ tk' a = 1 ∧ tk' b = 1) (hs : sep f w) (hd : ∀ j, 0 ≤ j → j < m → lk j ≠ w) : lkP f lk' tk' (m + 1) := by
  obtain ⟨l1, l2⟩ := h
  have lw : ∀ j, 0 ≤ j → j < at' → lk j < w := fun j j0 j1 => by
    have d := hd j j0 (by omega)
    rcases h4 with z | z
    · omega
    · by_cases y : j = at' - 1
      · rw [← y] at z; omega
      · have := l2 j (at' - 1) j0 (by omega) (by omega)
        omega
  have cs : ∀ j, 0 ≤ j → j < m + 1 → (j < at' ∧ lk' j = lk j) ∨ (j = at' ∧ lk' j = w) ∨ (at' < j ∧ lk' j = lk (j - 1) ∧ w < lk (j - 1)) := fun j j0 j1 => by
    rcases (show j < at' ∨ j = at' ∨ at' < j by omega) with z | z | z
    · exact Or.inl ⟨z, h1 j j0 z⟩
    · exact Or.inr (Or.inl ⟨z, by rw [z]; exact h2⟩)
    · have := h3 (j - 1) (by omega) (by omega)
      rw [show j - 1 + 1 = j by omega] at this
      exact Or.inr (Or.inr ⟨z, this⟩)
  refine ⟨fun j j0 j1 => ?_, fun i j i0 ij jm => ?_⟩
  · rcases cs j j0 j1 with ⟨z, e⟩ | ⟨z, e⟩ | ⟨z, e, _⟩
    · obtain ⟨⟨a, b, ha, hb, hab, e2, ta, tb⟩, e3⟩ := l1 j j0 (by omega)
      rw [e]; exact ⟨⟨a, b, ha, hb, hab, e2, htk a ta, htk b tb⟩, e3⟩
    · rw [e]; exact ⟨hw, hs⟩
    · obtain ⟨⟨a, b, ha, hb, hab, e2, ta, tb⟩, e3⟩ := l1 (j - 1) (by omega) (by omega)
      rw [e]; exact ⟨⟨a, b, ha, hb, hab, e2, htk a ta, htk b tb⟩, e3⟩
  · rcases cs i i0 (by omega) with ⟨z, e⟩ | ⟨z, e⟩ | ⟨z, e, q⟩ <;> rcases cs j (by omega) jm with ⟨z', e'⟩ | ⟨z', e'⟩ | ⟨z', e', q'⟩
    · rw [e, e']; exact l2 i j i0 ij (by omega)
    · rw [e, e']; exact lw i i0 z
    · rw [e, e']
      have := lw i i0 z
      omega
    · omega
    · omega
    · rw [e, e']; exact q'
    · omega
    · omega
    · rw [e, e']; exact l2 (i - 1) (j - 1) (by omega) (by omega) (by omega)
section L2
variable {n : Nat} {σ : sxS} {K : Option sxV → sxT → sxS → Prop} {f : Int → Int}
theorem x114l {m w : Int} (m0 : 0 ≤ m) (m1 : m < 40) (h8 : σ 133 8 = m) (hK : ∀ σ' at', (∀ q, q ≠ 133 → q ≠ 135 → σ' q = σ q) → (∀ j, j ≠ 8 → σ' 133 j = σ 133 j) → σ' 133 8 = m + 1 → 0 ≤ at' → at' ≤ m → (∀ j, 0 ≤ j → j < at' → σ' 135 j = σ 135 j) → σ' 135 at' = w → (∀ j, at' ≤ j → j < m → σ' 135 (j + 1) = σ 135 j ∧ w < σ 135 j) → (at' = 0 ∨ σ 135 (at' - 1) ≤ w) → K none (T0 n) σ') : ∀ (k : Nat) (a : Int) (σ1 : sxS), a = k → a ≤ m → (∀ q, q ≠ 135 → σ1 q = σ q) → (∀ j, 0 ≤ j → j < a → σ1 135 j = σ 135 j) → (∀ j, a ≤ j → j < m → σ1 135 (j + 1) = σ 135 j ∧ w < σ 135 j) → Rn 114 15 [some (vR 133), some (vI w), some (vI a)] [] (T0 n) σ1 K := by
  have fin : ∀ (a : Int) (σ1 : sxS), 0 ≤ a → a ≤ m → (∀ q, q ≠ 135 → σ1 q = σ q) → (∀ j, 0 ≤ j → j < a → σ1 135 j = σ 135 j) → (∀ j, a ≤ j → j < m → σ1 135 (j + 1) = σ 135 j ∧ w < σ 135 j) → (a = 0 ∨ σ 135 (a - 1) ≤ w) → Rn 114 51 [some (vR 133), some (vI w), some (vI a)] [] (T0 n) σ1 K := by
    intro a σ1 a0 am h1 h2 h3 h4
    have q133 : σ1 133 = σ 133 := h1 133 (by decide)
    have g8 : σ1 133 8 = m := by rw [q133, h8]
    have nx := hK (sc (sc σ1 135 (up1 (σ1 135) a w)) 133 (up1 (σ1 133) 8 (m + 1))) a (fun q b d => by rw [sc_at, if_neg b, sc_at, if_neg d, h1 q d]) (fun j hj => by rw [sc_at, if_pos rfl, up1_n hj, q133]) (by rw [sc_at, if_pos rfl, up1_s]) a0 am (fun j j0 j1 => by rw [sc_at, if_neg (by decide), sc_at, if_pos rfl, up1_n (by omega)]; exact h2 j j0 j1) (by rw [sc_at, if_neg (by decide), sc_at, if_pos rfl, up1_s]) (fun j j0 j1 => by rw [sc_at, if_neg (by decide), sc_at, if_pos rfl, up1_n (by omega)]; exact h3 j j0 j1) h4
    simp only [s114_51, s114_52, s114_55, s114_56, s114_57, s114_58, s114_59, s114_60, s114_63, s114_64, s114_65, s114_68, Int.reduceToNat, Int.reducePow, Nat.reducePow, Int.reduceLE, Int.reduceLT, Int.reduceNeg, Int.reduceEq, Int.reduceNe, Int.reduceAdd, Int.reduceSub, Int.reduceMul, and_self, sx_push, tf, List.length_cons, List.length_nil, Option.some.injEq, exists_eq_left', Nat.reduceAdd, Nat.reduceLeDiff, true_and, and_true, true_or, or_true, Int.zero_add, Nat.zero_le, eq_self, ne_eq, not_true_eq_false, not_false_eq_true, false_implies, true_implies, implies_true, b2i_0, b2i_1, b2i_01, up_sc, sc_at, sc_sc, ite_true, ite_false, if_true, if_false, Nat.reduceEqDiff, reduceIte, g8]
    repeat' (first | intro _ | refine And.intro ?_ ?_)
    all_goals first | omega | exact nx
  intro k
  induction k with
  | zero =>
    intro a σ1 ha am h1 h2 h3
    have nx := fin a σ1 (by omega) am h1 h2 h3 (Or.inl (by omega))
    rw [s114_15]
    simp only [s114_16, Int.reduceToNat, Int.reducePow, Nat.reducePow, Int.reduceLE, Int.reduceLT, Int.reduceNeg, Int.reduceEq, Int.reduceNe, Int.reduceAdd, Int.reduceSub, Int.reduceMul, and_self, sx_push, tf, List.length_cons, List.length_nil, Option.some.injEq, exists_eq_left', Nat.reduceAdd, Nat.reduceLeDiff, true_and, and_true, true_or, or_true, Int.zero_add, Nat.zero_le, eq_self, ne_eq, not_true_eq_false, not_false_eq_true, false_implies, true_implies, implies_true, b2i_0, b2i_1, b2i_01, up_sc, sc_at, sc_sc, ite_true, ite_false, if_true, if_false, Nat.reduceEqDiff, reduceIte]
    repeat' (first | intro _ | refine And.intro ?_ ?_)
    all_goals first | omega | exact nx
  | succ k ih =>
    intro a σ1 ha am h1 h2 h3
    have e1 := h2 (a - 1) (by omega) (by omega)
    rw [s114_15]
    by_cases y : σ 135 (a - 1) ≤ w
    · have nx := fin a σ1 (by omega) am h1 h2 h3 (Or.inr y)
      simp only [s114_16, s114_19, s114_20, s114_23, s114_24, s114_25, s114_26, s114_27, s114_28, Int.reduceToNat, Int.reducePow, Nat.reducePow, Int.reduceLE, Int.reduceLT, Int.reduceNeg, Int.reduceEq, Int.reduceNe, Int.reduceAdd, Int.reduceSub, Int.reduceMul, and_self, sx_push, tf, List.length_cons, List.length_nil, Option.some.injEq, exists_eq_left', Nat.reduceAdd, Nat.reduceLeDiff, true_and, and_true, true_or, or_true, Int.zero_add, Nat.zero_le, eq_self, ne_eq, not_true_eq_false, not_false_eq_true, false_implies, true_implies, implies_true, b2i_0, b2i_1, b2i_01, up_sc, sc_at, sc_sc, ite_true, ite_false, if_true, if_false, Nat.reduceEqDiff, reduceIte, e1]
      repeat' (first | intro _ | refine And.intro ?_ ?_)
      all_goals first | omega | exact nx
    · have nx := ih (a + -1) (sc σ1 135 (up1 (σ1 135) a (σ 135 (a - 1)))) (by omega) (by omega) (fun q hq => by rw [sc_at, if_neg hq, h1 q hq]) (fun j j0 j1 => by rw [sc_at, if_pos rfl, up1_n (by omega)]; exact h2 j j0 (by omega)) (fun j j0 j1 => by
        rw [sc_at, if_pos rfl]
        by_cases z : j = a - 1
        · rw [z, show a - 1 + 1 = a by omega, up1_s]; exact ⟨rfl, by omega⟩
        · rw [up1_n (by omega)]; exact h3 j (by omega) j1)
      simp only [s114_16, s114_19, s114_20, s114_23, s114_24, s114_25, s114_26, s114_27, s114_28, s114_31, s114_32, s114_35, s114_36, s114_37, s114_40, s114_41, s114_42, s114_43, s114_44, s114_45, s114_48, Int.reduceToNat, Int.reducePow, Nat.reducePow, Int.reduceLE, Int.reduceLT, Int.reduceNeg, Int.reduceEq, Int.reduceNe, Int.reduceAdd, Int.reduceSub, Int.reduceMul, and_self, sx_push, tf, List.length_cons, List.length_nil, Option.some.injEq, exists_eq_left', Nat.reduceAdd, Nat.reduceLeDiff, true_and, and_true, true_or, or_true, Int.zero_add, Nat.zero_le, eq_self, ne_eq, not_true_eq_false, not_false_eq_true, false_implies, true_implies, implies_true, b2i_0, b2i_1, b2i_01, up_sc, sc_at, sc_sc, ite_true, ite_false, if_true, if_false, Nat.reduceEqDiff, reduceIte, e1]
      repeat' (first | intro _ | refine And.intro ?_ ?_)
      all_goals first | omega | exact nx
theorem x114 {m w : Int} (m0 : 0 ≤ m) (m1 : m < 40) (h8 : σ 133 8 = m) (hK : ∀ σ' at', (∀ q, q ≠ 133 → q ≠ 135 → σ' q = σ q) → (∀ j, j ≠ 8 → σ' 133 j = σ 133 j) → σ' 133 8 = m + 1 → 0 ≤ at' → at' ≤ m → (∀ j, 0 ≤ j → j < at' → σ' 135 j = σ 135 j) → σ' 135 at' = w → (∀ j, at' ≤ j → j < m → σ' 135 (j + 1) = σ 135 j ∧ w < σ 135 j) → (at' = 0 ∨ σ 135 (at' - 1) ≤ w) → K none (T0 n) σ') : Rn 114 0 [some (vR 133), some (vI w), none] [] (T0 n) σ K := by
  have nx := x114l (n := n) (K := K) m0 m1 h8 hK m.toNat m σ (by omega) (by omega) (fun _ _ => rfl) (fun _ _ _ => rfl) (fun j j0 j1 => by omega)
  simp only [s114_0, s114_1, s114_4, s114_6, s114_10, s114_11, s114_14, Int.reduceToNat, Int.reducePow, Nat.reducePow, Int.reduceLE, Int.reduceLT, Int.reduceNeg, Int.reduceEq, Int.reduceNe, Int.reduceAdd, Int.reduceSub, Int.reduceMul, and_self, sx_push, tf, List.length_cons, List.length_nil, Option.some.injEq, exists_eq_left', Nat.reduceAdd, Nat.reduceLeDiff, true_and, and_true, true_or, or_true, Int.zero_add, Nat.zero_le, eq_self, ne_eq, not_true_eq_false, not_false_eq_true, false_implies, true_implies, implies_true, b2i_0, b2i_1, b2i_01, up_sc, sc_at, sc_sc, ite_true, ite_false, if_true, if_false, Nat.reduceEqDiff, reduceIte, h8]
  repeat' (first | intro _ | refine And.intro ?_ ?_)
  all_goals first | omega | exact nx
/-- what growing from a point leaves -/
def gwP (f np tk np' : Int → Int) (last p : Int) : Prop := ∀ q, 0 ≤ q → q < 40 → (q < p ∧ f q = 1 ∧ tk q = 0 → np' q = min (np q) (wE f q last)) ∧ (¬ (q < p ∧ f q = 1 ∧ tk q = 0) → np' q = np q)
def gwR (f tk np' : Int → Int) (p r : Int) : Prop := (r = -1 ∧ ∀ q, 0 ≤ q → q < p → f q = 1 → tk q ≠ 0) ∨ ((0 ≤ r ∧ r < p) ∧ f r = 1 ∧ tk r = 0 ∧ ∀ q, 0 ≤ q → q < p → f q = 1 → tk q = 0 → np' r ≤ np' q)
theorem x115l (hr : rL σ 7 f) (h01 : th01 f) (hw : wfc f) {last : Int} (hl : thr f last) (htk : ∀ q, 0 ≤ q → q < 40 → σ 140 q = 0 ∨ σ 140 q = 1) (hK : ∀ σ' r, (∀ q, q ≠ 138 → σ' q = σ q) → gwP f (σ 138) (σ 140) (σ' 138) last 40 → gwR f (σ 140) (σ' 138) 40 r → K (some (vI r)) (T0 n) σ') : ∀ (k : Nat) (p r : Int) (u : Option sxV) (σ1 : sxS), p + k = 40 → 0 ≤ p → (∀ q, q ≠ 138 → σ1 q = σ q) → gwP f (σ 138) (σ 140) (σ1 138) last p → gwR f (σ 140) (σ1 138) p r → Rn 115 4 [some (vR 133), some (vI last), some (vI r), some (vI p), u] [] (T0 n) σ1 K := by
  intro k
  induction k with
  | zero =>
    intro p r u σ1 hp p0 h1 h2 h3
    obtain rfl : p = 40 := by omega
    have hK := hK σ1 r h1 h2 h3
    rw [s115_4]
    simp only [s115_5, s115_7, s115_91, s115_92, Int.reduceToNat, Int.reducePow, Nat.reducePow, Int.reduceLE, Int.reduceLT, Int.reduceNeg, Int.reduceEq, Int.reduceNe, Int.reduceAdd, Int.reduceSub, Int.reduceMul, and_self, sx_push, tf, List.length_cons, List.length_nil, Option.some.injEq, exists_eq_left', Nat.reduceAdd, Nat.reduceLeDiff, true_and, and_true, true_or, or_true, Int.zero_add, Nat.zero_le, eq_self, ne_eq, not_true_eq_false, not_false_eq_true, false_implies, true_implies, implies_true, b2i_0, b2i_1, b2i_01, up_sc, sc_at, sc_sc, ite_true, ite_false, if_true, if_false, Nat.reduceEqDiff, reduceIte]
    repeat' (first | intro _ | refine And.intro ?_ ?_)
    all_goals first | omega | exact hK
  | succ k ih =>
    intro p r u σ1 hp p0 h1 h2 h3
    have p1 : p < 40 := by omega
    have hr1 : rL σ1 7 f := by
      unfold rL at hr ⊢
      rw [h1 7 (by decide), h1 (7 + 1) (by decide), h1 (7 + 2) (by decide)]; exact hr
    have q140 : σ1 140 = σ 140 := h1 140 (by decide)
    have tk := htk p p0 p1
    rw [s115_4]
    by_cases y : f p = 1 ∧ σ 140 p = 0
    · have hpt : thr f p := ⟨⟨p0, p1⟩, y.1⟩
      have fo := farO_in hw p0 p1 hl.1.1 hl.1.2
      have x108' := fun K => x108 (n := n) (σ := σ1) (K := K) (p := p) (q := last) (d := farO f p last) p0 (by omega) hl.1.1 (by have := hl.1.2; omega) fo.1 (by omega)
      have ee : pkP (min p last) (max p last) (farO f p last) = wE f p last := rfl
      rw [ee] at x108'
      have np : σ1 138 p = σ 138 p := (h2 p p0 p1).2 (by omega)
      have g2 : ∀ g, sc σ1 138 g 138 = g := fun g => by rw [sc_at, if_pos rfl]
      have hb : ∀ q, q ≠ 138 → sc σ1 138 (up1 (σ1 138) p (min (σ 138 p) (wE f p last))) q = σ q := fun q hq => by rw [sc_at, if_neg hq, h1 q hq]
      have hP : gwP f (σ 138) (σ 140) (sc σ1 138 (up1 (σ1 138) p (min (σ 138 p) (wE f p last))) 138) last (p + 1) := by
        intro q q0 q1
        rw [g2]
        by_cases z : q = p
        · rw [z, up1_s]; exact ⟨fun _ => rfl, fun w => absurd ⟨by omega, y.1, y.2⟩ w⟩
        · rw [up1_n z]
          have := h2 q q0 q1
          exact ⟨fun w => this.1 ⟨by omega, w.2.1, w.2.2⟩, fun w => this.2 (fun w2 => w ⟨by omega, w2.2.1, w2.2.2⟩)⟩
      have y1 := y.1
      have y2 := y.2
      rcases h3 with ⟨z1, z2⟩ | ⟨z1, z2, z3, z4⟩
      · have nx := fun u => ih (p + 1) p u _ (by omega) (by omega) hb hP (Or.inr ⟨by omega, y.1, y.2, fun q q0 q1 a b => by
          by_cases z : q = p
          · rw [z]; exact Int.le_refl _
          · exact absurd b (z2 q q0 (by omega) a)⟩)
        simp only [s115_5, s115_7, s115_10, s115_11, s115_14, s115_15, s115_18, s115_21, s115_22, s115_25, s115_26, s115_27, s115_30, s115_31, s115_32, s115_33, s115_36, s115_37, s115_38, s115_41, s115_44, s115_46, s115_47, s115_50, s115_51, s115_52, s115_55, s115_56, s115_57, s115_59, s115_62, s115_63, s115_64, s115_65, s115_83, s115_84, s115_85, s115_88, Int.reduceToNat, Int.reducePow, Nat.reducePow, Int.reduceLE, Int.reduceLT, Int.reduceNeg, Int.reduceEq, Int.reduceNe, Int.reduceAdd, Int.reduceSub, Int.reduceMul, and_self, sx_push, tf, List.length_cons, List.length_nil, Option.some.injEq, exists_eq_left', Nat.reduceAdd, Nat.reduceLeDiff, true_and, and_true, true_or, or_true, Int.zero_add, Nat.zero_le, eq_self, ne_eq, not_true_eq_false, not_false_eq_true, false_implies, true_implies, implies_true, b2i_0, b2i_1, b2i_01, up_sc, sc_at, sc_sc, ite_true, ite_false, if_true, if_false, Nat.reduceEqDiff, reduceIte, x49 isP7 hr1, q140, y2, x62o isP7 hr1 hw p0 p1 y1 hl.1.1 hl.1.2 hl.2, x108', np]
        repeat' (first | intro _ | refine And.intro ?_ ?_)
        all_goals first | omega | exact nx _
      · have ur : up1 (σ1 138) p (min (σ 138 p) (wE f p last)) r = σ1 138 r := up1_n (by omega)
        by_cases w : min (σ 138 p) (wE f p last) < σ1 138 r
        · have nx := fun u => ih (p + 1) p u _ (by omega) (by omega) hb hP (Or.inr ⟨by omega, y.1, y.2, fun q q0 q1 a b => by
            rw [g2, up1_s]
            by_cases z : q = p
            · rw [z, up1_s]; exact Int.le_refl _
            · rw [up1_n z]
              have := z4 q q0 (by omega) a b
              omega⟩)
          simp only [s115_5, s115_7, s115_10, s115_11, s115_14, s115_15, s115_18, s115_21, s115_22, s115_25, s115_26, s115_27, s115_30, s115_31, s115_32, s115_33, s115_36, s115_37, s115_38, s115_41, s115_44, s115_46, s115_47, s115_50, s115_51, s115_52, s115_55, s115_56, s115_57, s115_59, s115_62, s115_63, s115_64, s115_65, s115_68, s115_69, s115_72, s115_73, s115_74, s115_75, s115_78, s115_79, s115_80, s115_83, s115_84, s115_85, s115_88, Int.reduceToNat, Int.reducePow, Nat.reducePow, Int.reduceLE, Int.reduceLT, Int.reduceNeg, Int.reduceEq, Int.reduceNe, Int.reduceAdd, Int.reduceSub, Int.reduceMul, and_self, sx_push, tf, List.length_cons, List.length_nil, Option.some.injEq, exists_eq_left', Nat.reduceAdd, Nat.reduceLeDiff, true_and, and_true, true_or, or_true, Int.zero_add, Nat.zero_le, eq_self, ne_eq, not_true_eq_false, not_false_eq_true, false_implies, true_implies, implies_true, b2i_0, b2i_1, b2i_01, up_sc, sc_at, sc_sc, ite_true, ite_false, if_true, if_false, Nat.reduceEqDiff, reduceIte, x49 isP7 hr1, q140, y2, x62o isP7 hr1 hw p0 p1 y1 hl.1.1 hl.1.2 hl.2, x108', np, up1_s, ur]
          repeat' (first | intro _ | refine And.intro ?_ ?_)
          all_goals first | omega | exact nx _
        · have nx := fun u => ih (p + 1) r u _ (by omega) (by omega) hb hP (Or.inr ⟨by omega, z2, z3, fun q q0 q1 a b => by
            rw [g2, ur]
            by_cases z : q = p
            · rw [z, up1_s]; omega
            · rw [up1_n z]; exact z4 q q0 (by omega) a b⟩)
          simp only [s115_5, s115_7, s115_10, s115_11, s115_14, s115_15, s115_18, s115_21, s115_22, s115_25, s115_26, s115_27, s115_30, s115_31, s115_32, s115_33, s115_36, s115_37, s115_38, s115_41, s115_44, s115_46, s115_47, s115_50, s115_51, s115_52, s115_55, s115_56, s115_57, s115_59, s115_62, s115_63, s115_64, s115_65, s115_68, s115_69, s115_72, s115_73, s115_74, s115_75, s115_78, s115_79, s115_80, s115_83, s115_84, s115_85, s115_88, Int.reduceToNat, Int.reducePow, Nat.reducePow, Int.reduceLE, Int.reduceLT, Int.reduceNeg, Int.reduceEq, Int.reduceNe, Int.reduceAdd, Int.reduceSub, Int.reduceMul, and_self, sx_push, tf, List.length_cons, List.length_nil, Option.some.injEq, exists_eq_left', Nat.reduceAdd, Nat.reduceLeDiff, true_and, and_true, true_or, or_true, Int.zero_add, Nat.zero_le, eq_self, ne_eq, not_true_eq_false, not_false_eq_true, false_implies, true_implies, implies_true, b2i_0, b2i_1, b2i_01, up_sc, sc_at, sc_sc, ite_true, ite_false, if_true, if_false, Nat.reduceEqDiff, reduceIte, x49 isP7 hr1, q140, y2, x62o isP7 hr1 hw p0 p1 y1 hl.1.1 hl.1.2 hl.2, x108', np, up1_s, ur]
          repeat' (first | intro _ | refine And.intro ?_ ?_)
          all_goals first | omega | exact nx _
    · have nx := ih (p + 1) r u σ1 (by omega) (by omega) h1 (fun q q0 q1 => by
        have := h2 q q0 q1
        by_cases z : q = p
        · exact ⟨fun w => by rw [z] at w; exact absurd ⟨w.2.1, w.2.2⟩ y, fun w => this.2 (by omega)⟩
        · exact ⟨fun w => this.1 ⟨by omega, w.2.1, w.2.2⟩, fun w => this.2 (fun w2 => w ⟨by omega, w2.2.1, w2.2.2⟩)⟩) (by
        rcases h3 with ⟨z1, z2⟩ | ⟨z1, z2, z3, z4⟩
        · refine Or.inl ⟨z1, fun q q0 q1 a => ?_⟩
          by_cases z : q = p
          · rw [z] at a ⊢; exact fun b => y ⟨a, b⟩
          · exact z2 q q0 (by omega) a
        · refine Or.inr ⟨by omega, z2, z3, fun q q0 q1 a b => ?_⟩
          by_cases z : q = p
          · rw [z] at a b; exact absurd ⟨a, b⟩ y
          · exact z4 q q0 (by omega) a b)
      by_cases y1 : f p = 1
      · have y2 : σ 140 p = 1 := by omega
        simp only [s115_5, s115_7, s115_10, s115_11, s115_14, s115_15, s115_18, s115_21, s115_22, s115_25, s115_26, s115_27, s115_85, s115_88, Int.reduceToNat, Int.reducePow, Nat.reducePow, Int.reduceLE, Int.reduceLT, Int.reduceNeg, Int.reduceEq, Int.reduceNe, Int.reduceAdd, Int.reduceSub, Int.reduceMul, and_self, sx_push, tf, List.length_cons, List.length_nil, Option.some.injEq, exists_eq_left', Nat.reduceAdd, Nat.reduceLeDiff, true_and, and_true, true_or, or_true, Int.zero_add, Nat.zero_le, eq_self, ne_eq, not_true_eq_false, not_false_eq_true, false_implies, true_implies, implies_true, b2i_0, b2i_1, b2i_01, up_sc, sc_at, sc_sc, ite_true, ite_false, if_true, if_false, Nat.reduceEqDiff, reduceIte, x49 isP7 hr1, q140, y2]
        repeat' (first | intro _ | refine And.intro ?_ ?_)
        all_goals first | omega | exact nx
      · simp only [s115_5, s115_7, s115_10, s115_11, s115_14, s115_15, s115_18, s115_85, s115_88, Int.reduceToNat, Int.reducePow, Nat.reducePow, Int.reduceLE, Int.reduceLT, Int.reduceNeg, Int.reduceEq, Int.reduceNe, Int.reduceAdd, Int.reduceSub, Int.reduceMul, and_self, sx_push, tf, List.length_cons, List.length_nil, Option.some.injEq, exists_eq_left', Nat.reduceAdd, Nat.reduceLeDiff, true_and, and_true, true_or, or_true, Int.zero_add, Nat.zero_le, eq_self, ne_eq, not_true_eq_false, not_false_eq_true, false_implies, true_implies, implies_true, b2i_0, b2i_1, b2i_01, up_sc, sc_at, sc_sc, ite_true, ite_false, if_true, if_false, Nat.reduceEqDiff, reduceIte, x49 isP7 hr1]
        repeat' (first | intro _ | refine And.intro ?_ ?_)
        all_goals first | omega | exact nx
theorem x115 (hr : rL σ 7 f) (h01 : th01 f) (hw : wfc f) {last : Int} (hl : thr f last) (htk : ∀ q, 0 ≤ q → q < 40 → σ 140 q = 0 ∨ σ 140 q = 1) (hK : ∀ σ' r, (∀ q, q ≠ 138 → σ' q = σ q) → gwP f (σ 138) (σ 140) (σ' 138) last 40 → gwR f (σ 140) (σ' 138) 40 r → K (some (vI r)) (T0 n) σ') : Rn 115 0 [some (vR 133), some (vI last), none, none, none] [] (T0 n) σ K := by
  have nx := x115l (n := n) (K := K) hr h01 hw hl htk hK 40 0 (-1) none σ (by omega) (by omega) (fun _ _ => rfl) (fun q q0 q1 => ⟨fun w => by omega, fun _ => rfl⟩) (Or.inl ⟨rfl, fun q q0 q1 => by omega⟩)
  simp only [s115_0, s115_1, s115_2, s115_3, Int.reduceToNat, Int.reducePow, Nat.reducePow, Int.reduceLE, Int.reduceLT, Int.reduceNeg, Int.reduceEq, Int.reduceNe, Int.reduceAdd, Int.reduceSub, Int.reduceMul, and_self, sx_push, tf, List.length_cons, List.length_nil, Option.some.injEq, exists_eq_left', Nat.reduceAdd, Nat.reduceLeDiff, true_and, and_true, true_or, or_true, Int.zero_add, Nat.zero_le, eq_self, ne_eq, not_true_eq_false, not_false_eq_true, false_implies, true_implies, implies_true, b2i_0, b2i_1, b2i_01, up_sc, sc_at, sc_sc, ite_true, ite_false, if_true, if_false, Nat.reduceEqDiff, reduceIte]
  repeat' (first | intro _ | refine And.intro ?_ ?_)
  all_goals first | omega | exact nx
end L2
