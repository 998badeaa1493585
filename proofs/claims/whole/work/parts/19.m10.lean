/-! the reference: those left by one that goes -/
def isLf (f : Int → Int) (g q : Int) : Prop := f q = 1 ∧ f (160 + q) < 10 ∧ f (200 + q) = g
def leftF (f : Int → Int) (g : Int) : Nat → Int → Int → Int
  | 0, _, b => b
  | k + 1, p, b => leftF f g k (p + 1) (if (f p = 1 ∧ f (160 + p) < 10 ∧ f (200 + p) = g) ∧ (b = -1 ∨ f (160 + b) < f (160 + p)) then p else b)
def left (f : Int → Int) (g : Int) : Int := leftF f g 40 0 (-1)
theorem leftF_spec (f : Int → Int) (g : Int) : ∀ (k : Nat) (p b : Int), p + k = 40 → 0 ≤ p → ((b = -1 ∧ ∀ q, 0 ≤ q → q < p → ¬ isLf f g q) ∨ (0 ≤ b ∧ b < p ∧ isLf f g b ∧ ∀ q, 0 ≤ q → q < p → isLf f g q → f (160 + q) < f (160 + b) ∨ (f (160 + q) = f (160 + b) ∧ b ≤ q))) → ((leftF f g k p b = -1 ∧ ∀ q, 0 ≤ q → q < 40 → ¬ isLf f g q) ∨ (0 ≤ leftF f g k p b ∧ leftF f g k p b < 40 ∧ isLf f g (leftF f g k p b) ∧ ∀ q, 0 ≤ q → q < 40 → isLf f g q → f (160 + q) < f (160 + leftF f g k p b) ∨ (f (160 + q) = f (160 + leftF f g k p b) ∧ leftF f g k p b ≤ q))) := by
  intro k
  induction k with
  | zero =>
    intro p b hp h0 h
    obtain rfl : p = 40 := by omega
    exact h
  | succ k ih =>
    intro p b hp h0 h
    unfold leftF
    refine ih _ _ (by omega) (by omega) ?_
    by_cases c : (f p = 1 ∧ f (160 + p) < 10 ∧ f (200 + p) = g) ∧ (b = -1 ∨ f (160 + b) < f (160 + p))
    · rw [if_pos c]
      refine Or.inr ⟨h0, by omega, c.1, fun q q0 q1 hq => ?_⟩
      by_cases e : q = p
      · subst e; omega
      · rcases h with ⟨h1, h2⟩ | ⟨h1, h2, h3, h4⟩
        · exact absurd hq (h2 q q0 (by omega))
        · have := h4 q q0 (by omega) hq
          omega
    · rw [if_neg c]
      rcases h with ⟨h1, h2⟩ | ⟨h1, h2, h3, h4⟩
      · refine Or.inl ⟨h1, fun q q0 q1 hq => ?_⟩
        by_cases e : q = p
        · subst e; exact c ⟨hq, Or.inl h1⟩
        · exact h2 q q0 (by omega) hq
      · refine Or.inr ⟨h1, by omega, h3, fun q q0 q1 hq => ?_⟩
        by_cases e : q = p
        · subst e
          have : ¬ (b = -1 ∨ f (160 + b) < f (160 + q)) := fun z => c ⟨hq, z⟩
          omega
        · exact h4 q q0 (by omega) hq
theorem left_spec (f : Int → Int) (g : Int) : (left f g = -1 ∧ ∀ q, 0 ≤ q → q < 40 → ¬ isLf f g q) ∨ (0 ≤ left f g ∧ left f g < 40 ∧ isLf f g (left f g) ∧ ∀ q, 0 ≤ q → q < 40 → isLf f g q → f (160 + q) < f (160 + left f g) ∨ (f (160 + q) = f (160 + left f g) ∧ left f g ≤ q)) := leftF_spec f g 40 0 (-1) (by omega) (by omega) (Or.inl ⟨rfl, fun q h1 h2 => by omega⟩)
def kq (f : Int → Int) (g lv : Int) : Nat → Int → List Int
  | 0, _ => []
  | k + 1, q => if f q = 1 ∧ f (160 + q) = lv ∧ f (200 + q) = g then q :: kq f g lv k (q + 1) else kq f g lv k (q + 1)
def kl (f : Int → Int) (g : Int) : Nat → Int → List Int
  | 0, _ => []
  | m + 1, lv => kq f g lv 40 0 ++ kl f g m (lv - 1)
/-- those left by g: by levels, the highest first, then by numbers -/
def kids (f : Int → Int) (g : Int) : List Int := kl f g 10 9
theorem kq_nil {f : Int → Int} {g lv : Int} : ∀ (k : Nat) (p : Int), (∀ q, p ≤ q → q < p + k → ¬ (f q = 1 ∧ f (160 + q) = lv ∧ f (200 + q) = g)) → kq f g lv k p = [] := by
  intro k
  induction k with
  | zero => intro p _; rfl
  | succ k ih =>
    intro p h
    unfold kq
    rw [if_neg (h p (by omega) (by omega))]
    exact ih _ (fun q h1 h2 => h q (by omega) (by omega))
theorem kq_congr {f f' : Int → Int} {g lv : Int} : ∀ (k : Nat) (p : Int), (∀ q, p ≤ q → q < p + k → ((f q = 1 ∧ f (160 + q) = lv ∧ f (200 + q) = g) ↔ (f' q = 1 ∧ f' (160 + q) = lv ∧ f' (200 + q) = g))) → kq f g lv k p = kq f' g lv k p := by
  intro k
  induction k with
  | zero => intro p _; rfl
  | succ k ih =>
    intro p h
    unfold kq
    have h0 := h p (by omega) (by omega)
    have := ih (p + 1) (fun q h1 h2 => h q (by omega) (by omega))
    by_cases c : f p = 1 ∧ f (160 + p) = lv ∧ f (200 + p) = g
    · rw [if_pos c, if_pos (h0.mp c), this]
    · rw [if_neg c, if_neg (fun z => c (h0.mpr z)), this]
theorem kq_cons {f : Int → Int} {g M q : Int} (hM : M ≠ g) (hq : f q = 1 ∧ f (160 + q) = f (160 + q) ∧ f (200 + q) = g) (hr : 0 ≤ q ∧ q < 40) : ∀ (k : Nat) (p : Int), 0 ≤ p → p + k ≤ 40 → p ≤ q → q < p + k → (∀ z, p ≤ z → z < q → ¬ (f z = 1 ∧ f (160 + z) = f (160 + q) ∧ f (200 + z) = g)) → kq f g (f (160 + q)) k p = q :: kq (up1 f (200 + q) M) g (f (160 + q)) k p := by
  intro k
  induction k with
  | zero => intro p _ _ h1 h2; exfalso; simp at h2; omega
  | succ k ih =>
    intro p p0 p1 h1 h2 h
    by_cases e : p = q
    · subst e
      conv => lhs; unfold kq
      rw [if_pos hq]
      conv => rhs; unfold kq
      rw [if_neg (by rw [up1_s]; exact fun z => hM z.2.2)]
      congr 1
      refine kq_congr k (p + 1) (fun z z1 z2 => ?_)
      rw [up1_n (by omega), up1_n (by omega), up1_n (by omega)]
    · conv => lhs; unfold kq
      conv => rhs; unfold kq
      rw [if_neg (h p (by omega) (by omega)), up1_n (by omega), up1_n (by omega), up1_n (by omega), if_neg (h p (by omega) (by omega))]
      exact ih _ (by omega) (by omega) (by omega) (by omega) (fun z z1 z2 => h z (by omega) z2)
theorem kl_cons {f : Int → Int} {g M q : Int} (hM : M ≠ g) (hq : isLf f g q) (hr : 0 ≤ q ∧ q < 40) (hb : ∀ z, 0 ≤ z → z < 40 → isLf f g z → f (160 + z) < f (160 + q) ∨ (f (160 + z) = f (160 + q) ∧ q ≤ z)) : ∀ (m : Nat) (lv : Int), lv ≤ 9 → lv + 1 = m → f (160 + q) ≤ lv → 0 ≤ f (160 + q) → kl f g m lv = q :: kl (up1 f (200 + q) M) g m lv := by
  intro m
  induction m with
  | zero => intro lv _ h1 h2 h3; exfalso; simp at h1; omega
  | succ m ih =>
    intro lv h9 h1 h2 h3
    conv => lhs; unfold kl
    conv => rhs; unfold kl
    by_cases e : f (160 + q) = lv
    · subst e
      rw [kq_cons hM ⟨hq.1, rfl, hq.2.2⟩ hr 40 0 (by omega) (by omega) (by omega) (by omega) (fun z z0 z1 hz => by have := hb z z0 (by omega) ⟨hz.1, by have := hq.2.1; omega, hz.2.2⟩; omega)]
      rw [List.cons_append]
      congr 2
      have : ∀ (m : Nat) (lv : Int), lv < f (160 + q) → kl f g m lv = kl (up1 f (200 + q) M) g m lv := by
        intro m
        induction m with
        | zero => intro lv _; rfl
        | succ m ih2 =>
          intro lv hlv
          unfold kl
          rw [ih2 (lv - 1) (by omega)]
          congr 1
          refine kq_congr 40 0 (fun z z1 z2 => ?_)
          by_cases ez : z = q
          · subst ez
            rw [up1_n (by omega), up1_n (by omega), up1_s]
            omega
          · rw [up1_n (by omega), up1_n (by omega), up1_n (by omega)]
      exact this m _ (by omega)
    · have n1 : kq f g lv 40 0 = [] := kq_nil 40 0 (fun z z1 z2 hz => by have := hb z z1 (by omega) ⟨hz.1, by omega, hz.2.2⟩; omega)
      have n2 : kq (up1 f (200 + q) M) g lv 40 0 = [] := kq_nil 40 0 (fun z z1 z2 hz => by
        by_cases ez : z = q
        · subst ez
          rw [up1_n (show 160 + z ≠ 200 + z by omega)] at hz
          omega
        · rw [up1_n (by omega), up1_n (by omega), up1_n (by omega)] at hz
          have := hb z z1 (by omega) ⟨hz.1, by omega, hz.2.2⟩; omega)
      rw [n1, n2]
      exact ih (lv - 1) (by omega) (by omega) (by omega) h3
theorem kids_cons {f : Int → Int} {g M : Int} (hM : M ≠ g) (hl : left f g ≠ -1) (h0 : 0 ≤ f (160 + left f g)) : kids f g = left f g :: kids (up1 f (200 + left f g) M) g := by
  rcases left_spec f g with h | ⟨h1, h2, h3, h4⟩
  · exact absurd h.1 hl
  · exact kl_cons hM h3 ⟨h1, h2⟩ h4 10 9 (by omega) (by omega) (by have := h3.2.1; omega) h0
theorem kids_nil {f : Int → Int} {g : Int} (hl : left f g = -1) : kids f g = [] := by
  rcases left_spec f g with ⟨-, h⟩ | ⟨h1, -⟩
  · have : ∀ (m : Nat) (lv : Int), lv < 10 → kl f g m lv = [] := by
      intro m
      induction m with
      | zero => intro lv _; rfl
      | succ m ih =>
        intro lv hlv
        unfold kl
        rw [ih _ (by omega), kq_nil 40 0 (fun z z1 z2 hz => h z z1 (by omega) ⟨hz.1, by omega, hz.2.2⟩)]
        rfl
    exact this 10 9 (by omega)
  · omega
section M10
variable {n : Nat} {σ : sxS} {K : Option sxV → sxT → sxS → Prop}
theorem x255l {g : Int} : ∀ (k : Nat) (p b : Int) (u : Option sxV), p + k = 40 → 0 ≤ p → (b = -1 ∨ (0 ≤ b ∧ b < 40)) → K (some (vI (leftF (σ 150) g k p b))) (T0 n) σ → Rn 255 4 [some (vR 149), some (vI g), some (vI b), some (vI p), u] [] (T0 n) σ K := by
  intro k
  induction k with
  | zero =>
    intro p b u hp h0 hb hK
    rw [s255_4]
    simp only [s255_0, s255_1, s255_2, s255_3, s255_5, s255_7, s255_10, s255_11, s255_14, s255_15, s255_16, s255_17, s255_18, s255_19, s255_22, s255_23, s255_26, s255_29, s255_30, s255_31, s255_32, s255_34, s255_37, s255_38, s255_41, s255_44, s255_45, s255_46, s255_47, s255_48, s255_51, s255_52, s255_55, s255_56, s255_58, s255_60, s255_63, s255_64, s255_65, s255_68, s255_69, s255_72, s255_75, s255_76, s255_77, s255_78, s255_79, s255_82, s255_85, s255_86, s255_87, s255_88, s255_91, s255_92, s255_93, s255_96, s255_99, s255_100, sx_push, tf, List.length_cons, List.length_nil, Option.some.injEq, exists_eq_left', Nat.reduceAdd, Nat.reduceLeDiff, true_and, and_true, true_or, or_true, Int.zero_add, Nat.zero_le, eq_self, ne_eq, not_true_eq_false, not_false_eq_true, false_implies, true_implies, implies_true, b2i_0, b2i_1, b2i_01, up_sc, sc_at, sc_sc, ite_true, ite_false, if_true, if_false, Nat.reduceEqDiff, reduceIte]
    repeat' (first | intro _ | refine And.intro ?_ ?_)
    all_goals first | exact hK | omega
  | succ k ih =>
    intro p b u hp h0 hb hK
    unfold leftF at hK
    rw [s255_4]
    rcases hb with rfl | ⟨b0, b1⟩
    · simp only [s255_0, s255_1, s255_2, s255_3, s255_5, s255_7, s255_10, s255_11, s255_14, s255_15, s255_16, s255_17, s255_18, s255_19, s255_22, s255_23, s255_26, s255_29, s255_30, s255_31, s255_32, s255_34, s255_37, s255_38, s255_41, s255_44, s255_45, s255_46, s255_47, s255_48, s255_51, s255_52, s255_55, s255_56, s255_58, s255_60, s255_63, s255_64, s255_65, s255_68, s255_69, s255_72, s255_75, s255_76, s255_77, s255_78, s255_79, s255_82, s255_85, s255_86, s255_87, s255_88, s255_91, s255_92, s255_93, s255_96, s255_99, s255_100, scm, up1_s, up1_up1, Int.add_assoc, Int.reduceAdd, Int.reduceSub, Int.reduceMul, Int.reduceNeg, Int.reduceLT, Int.reduceLE, Int.reduceEq, Int.reduceNe, Int.reduceToNat, Int.reducePow, Nat.reduceLT, sx_push, tf, List.length_cons, List.length_nil, Option.some.injEq, exists_eq_left', Nat.reduceAdd, Nat.reduceLeDiff, true_and, and_true, true_or, or_true, Int.zero_add, Nat.zero_le, eq_self, ne_eq, not_true_eq_false, not_false_eq_true, false_implies, true_implies, implies_true, b2i_0, b2i_1, b2i_01, up_sc, sc_at, sc_sc, ite_true, ite_false, if_true, if_false, Nat.reduceEqDiff, reduceIte]
      repeat' (first | intro _ | refine And.intro ?_ ?_)
      all_goals first | omega | (split at hK <;> first | omega | exact ih _ _ _ (by omega) (by omega) (by omega) hK | (exfalso; simp_all; done))
    · simp only [s255_0, s255_1, s255_2, s255_3, s255_5, s255_7, s255_10, s255_11, s255_14, s255_15, s255_16, s255_17, s255_18, s255_19, s255_22, s255_23, s255_26, s255_29, s255_30, s255_31, s255_32, s255_34, s255_37, s255_38, s255_41, s255_44, s255_45, s255_46, s255_47, s255_48, s255_51, s255_52, s255_55, s255_56, s255_58, s255_60, s255_63, s255_64, s255_65, s255_68, s255_69, s255_72, s255_75, s255_76, s255_77, s255_78, s255_79, s255_82, s255_85, s255_86, s255_87, s255_88, s255_91, s255_92, s255_93, s255_96, s255_99, s255_100, scm, up1_s, up1_up1, Int.add_assoc, Int.reduceAdd, Int.reduceSub, Int.reduceMul, Int.reduceNeg, Int.reduceLT, Int.reduceLE, Int.reduceEq, Int.reduceNe, Int.reduceToNat, Int.reducePow, Nat.reduceLT, sx_push, tf, List.length_cons, List.length_nil, Option.some.injEq, exists_eq_left', Nat.reduceAdd, Nat.reduceLeDiff, true_and, and_true, true_or, or_true, Int.zero_add, Nat.zero_le, eq_self, ne_eq, not_true_eq_false, not_false_eq_true, false_implies, true_implies, implies_true, b2i_0, b2i_1, b2i_01, up_sc, sc_at, sc_sc, ite_true, ite_false, if_true, if_false, Nat.reduceEqDiff, reduceIte]
      repeat' (first | intro _ | refine And.intro ?_ ?_)
      all_goals first | omega | (split at hK <;> first | omega | exact ih _ _ _ (by omega) (by omega) (by omega) hK)
theorem x255 {g : Int} : Rn 255 0 [some (vR 149), some (vI g), none, none, none] [] (T0 n) σ K ↔ K (some (vI (left (σ 150) g))) (T0 n) σ := by
  refine Rn_iff fun K hK => ?_
  simp only [s255_0, s255_1, s255_2, s255_3, s255_5, s255_7, s255_10, s255_11, s255_14, s255_15, s255_16, s255_17, s255_18, s255_19, s255_22, s255_23, s255_26, s255_29, s255_30, s255_31, s255_32, s255_34, s255_37, s255_38, s255_41, s255_44, s255_45, s255_46, s255_47, s255_48, s255_51, s255_52, s255_55, s255_56, s255_58, s255_60, s255_63, s255_64, s255_65, s255_68, s255_69, s255_72, s255_75, s255_76, s255_77, s255_78, s255_79, s255_82, s255_85, s255_86, s255_87, s255_88, s255_91, s255_92, s255_93, s255_96, s255_99, s255_100, sx_push, tf, List.length_cons, List.length_nil, Option.some.injEq, exists_eq_left', Nat.reduceAdd, Nat.reduceLeDiff, true_and, and_true, true_or, or_true, Int.zero_add, Nat.zero_le, eq_self, ne_eq, not_true_eq_false, not_false_eq_true, false_implies, true_implies, implies_true, b2i_0, b2i_1, b2i_01, up_sc, sc_at, sc_sc, ite_true, ite_false, if_true, if_false, Nat.reduceEqDiff, reduceIte]
  exact x255l 40 0 (-1) none (by omega) (by omega) (by omega) hK
end M10
