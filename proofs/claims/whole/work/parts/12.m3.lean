/-! the nearest of a net, levels, one that comes: of the reference -/
theorem up1_s (f : Int → Int) (i v : Int) : up1 f i v i = v := by simp [up1]
theorem up1_n {f : Int → Int} {i v j : Int} (h : j ≠ i) : up1 f i v j = f j := by simp [up1, h]
def nearF (f : Int → Int) (l x y z : Int) : Nat → Int → Int → Int
  | 0, _, b => b
  | k + 1, p, b => nearF f l x y z k (p + 1) (if (f p = 1 ∧ l ≤ f (160 + p)) ∧ (b = -1 ∨ farT f p x y z < farT f b x y z) then p else b)
def near (f : Int → Int) (l x y z : Int) : Int := nearF f l x y z 40 0 (-1)
theorem nearF_in (f : Int → Int) (l x y z : Int) : ∀ (k : Nat) (p b : Int), p + k = 40 → 0 ≤ p → (b = -1 ∨ (0 ≤ b ∧ b < 40 ∧ f b = 1 ∧ l ≤ f (160 + b))) → nearF f l x y z k p b = -1 ∨ (0 ≤ nearF f l x y z k p b ∧ nearF f l x y z k p b < 40 ∧ f (nearF f l x y z k p b) = 1 ∧ l ≤ f (160 + nearF f l x y z k p b)) := by
  intro k
  induction k with
  | zero => intro p b _ _ h; exact h
  | succ k ih =>
    intro p b hp h0 hb
    unfold nearF
    refine ih _ _ (by omega) (by omega) ?_
    split
    · rename_i h; exact Or.inr ⟨h0, by omega, h.1.1, h.1.2⟩
    · exact hb
theorem near_in (f : Int → Int) (l x y z : Int) : near f l x y z = -1 ∨ (0 ≤ near f l x y z ∧ near f l x y z < 40 ∧ f (near f l x y z) = 1 ∧ l ≤ f (160 + near f l x y z)) := nearF_in f l x y z 40 0 (-1) (by omega) (by omega) (Or.inl rfl)
def levelF (f : Int → Int) (x y z : Int) : Nat → Int → Int
  | 0, _ => 10
  | m + 1, k => if near f k x y z ≠ -1 ∧ farT f (near f k x y z) x y z < 2 ^ k.toNat then k - 1 else levelF f x y z m (k + 1)
def levelO (f : Int → Int) (x y z : Int) : Int := levelF f x y z 10 1
theorem levelF_in (f : Int → Int) (x y z : Int) : ∀ (m : Nat) (k : Int), k + m = 11 → 1 ≤ k → 0 ≤ levelF f x y z m k ∧ levelF f x y z m k ≤ 10 := by
  intro m
  induction m with
  | zero => intro k _ _; exact ⟨(by decide : (0 : Int) ≤ 10), (by decide : (10 : Int) ≤ 10)⟩
  | succ m ih =>
    intro k h1 h2
    unfold levelF
    split
    · omega
    · exact ih _ (by omega) (by omega)
def comesF (f : Int → Int) (p x y z : Int) : Int → Int :=
  up1 (up1 (up1 (up1 (up1 (up1 f p 1) (40 + p) x) (80 + p) y) (120 + p) z) (160 + p) (levelO f x y z)) (200 + p) (if levelO f x y z = 10 then -1 else near f (levelO f x y z + 1) x y z)
section M3
variable {n : Nat} {σ : sxS} {K : Option sxV → sxT → sxS → Prop}
theorem x193l {l x y z : Int} (hw : wfc (σ 150)) (hx : in8 x) (hy : in8 y) (hz : in8 z) : ∀ (k : Nat) (p b : Int), p + k = 40 → 0 ≤ p → (b = -1 ∨ (0 ≤ b ∧ b < 40)) → K (some (vI (nearF (σ 150) l x y z k p b))) (T0 n) σ → Rn 193 6 [some (vR 149), some (vI l), some (vI x), some (vI y), some (vI z), some (vI b), some (vI p)] [] (T0 n) σ K := by
  intro k
  induction k with
  | zero =>
    intro p b hp h0 hb hK
    rw [s193_6]
    simp only [s193_0, s193_1, s193_3, s193_4, s193_8, s193_10, s193_13, s193_14, s193_16, s193_17, s193_20, s193_23, s193_25, s193_26, s193_29, s193_30, s193_32, s193_33, s193_34, s193_36, s193_39, s193_40, s193_42, s193_43, s193_44, s193_46, s193_49, s193_52, s193_54, s193_56, s193_59, s193_62, s193_64, sx_push, tf, List.length_cons, List.length_nil, Option.some.injEq, exists_eq_left', Nat.reduceAdd, Nat.reduceLeDiff, true_and, and_true, true_or, or_true, Int.zero_add, Nat.zero_le, eq_self, ne_eq, not_true_eq_false, not_false_eq_true, false_implies, true_implies, implies_true, b2i_0, b2i_1, b2i_01, up_sc, sc_at, sc_sc, ite_true, ite_false, if_true, if_false, Nat.reduceEqDiff, reduceIte]
    repeat' (first | intro _ | refine And.intro ?_ ?_)
    all_goals first | exact hK | omega
  | succ k ih =>
    intro p b hp h0 hb hK
    have h1 : p < 40 := by omega
    rw [s193_6]
    unfold nearF at hK
    rcases hb with rfl | ⟨b0, b1⟩
    · simp only [s193_0, s193_1, s193_3, s193_4, s193_8, s193_10, s193_13, s193_14, s193_16, s193_17, s193_20, s193_23, s193_25, s193_26, s193_29, s193_30, s193_32, s193_33, s193_34, s193_36, s193_39, s193_40, s193_42, s193_43, s193_44, s193_46, s193_49, s193_52, s193_54, s193_56, s193_59, s193_62, s193_64, sx_push, tf, List.length_cons, List.length_nil, Option.some.injEq, exists_eq_left', Nat.reduceAdd, Nat.reduceLeDiff, true_and, and_true, true_or, or_true, Int.zero_add, Nat.zero_le, eq_self, ne_eq, not_true_eq_false, not_false_eq_true, false_implies, true_implies, implies_true, b2i_0, b2i_1, b2i_01, up_sc, sc_at, sc_sc, ite_true, ite_false, if_true, if_false, Nat.reduceEqDiff, reduceIte, x194 h0 h1, x195 hw hx hy hz h0 h1]
      repeat' (first | intro _ | refine And.intro ?_ ?_)
      all_goals first | omega | (split at hK <;> first | exact ih _ _ (by omega) (by omega) (by omega) hK | (exfalso; simp_all; done) | omega)
    · simp only [s193_0, s193_1, s193_3, s193_4, s193_8, s193_10, s193_13, s193_14, s193_16, s193_17, s193_20, s193_23, s193_25, s193_26, s193_29, s193_30, s193_32, s193_33, s193_34, s193_36, s193_39, s193_40, s193_42, s193_43, s193_44, s193_46, s193_49, s193_52, s193_54, s193_56, s193_59, s193_62, s193_64, sx_push, tf, List.length_cons, List.length_nil, Option.some.injEq, exists_eq_left', Nat.reduceAdd, Nat.reduceLeDiff, true_and, and_true, true_or, or_true, Int.zero_add, Nat.zero_le, eq_self, ne_eq, not_true_eq_false, not_false_eq_true, false_implies, true_implies, implies_true, b2i_0, b2i_1, b2i_01, up_sc, sc_at, sc_sc, ite_true, ite_false, if_true, if_false, Nat.reduceEqDiff, reduceIte, x194 h0 h1, x195 hw hx hy hz h0 h1, x195 hw hx hy hz b0 b1]
      repeat' (first | intro _ | refine And.intro ?_ ?_)
      all_goals first | omega | (split at hK <;> first | omega | exact ih _ _ (by omega) (by omega) (by omega) hK)
theorem x193 {l x y z : Int} (hw : wfc (σ 150)) (hx : in8 x) (hy : in8 y) (hz : in8 z) : Rn 193 0 [some (vR 149), some (vI l), some (vI x), some (vI y), some (vI z), none, none] [] (T0 n) σ K ↔ K (some (vI (near (σ 150) l x y z))) (T0 n) σ := by
  refine Rn_iff fun K hK => ?_
  simp only [s193_0, s193_1, s193_3, s193_4, s193_8, s193_10, s193_13, s193_14, s193_16, s193_17, s193_20, s193_23, s193_25, s193_26, s193_29, s193_30, s193_32, s193_33, s193_34, s193_36, s193_39, s193_40, s193_42, s193_43, s193_44, s193_46, s193_49, s193_52, s193_54, s193_56, s193_59, s193_62, s193_64, sx_push, tf, List.length_cons, List.length_nil, Option.some.injEq, exists_eq_left', Nat.reduceAdd, Nat.reduceLeDiff, true_and, and_true, true_or, or_true, Int.zero_add, Nat.zero_le, eq_self, ne_eq, not_true_eq_false, not_false_eq_true, false_implies, true_implies, implies_true, b2i_0, b2i_1, b2i_01, up_sc, sc_at, sc_sc, ite_true, ite_false, if_true, if_false, Nat.reduceEqDiff, reduceIte]
  exact x193l hw hx hy hz 40 0 (-1) (by omega) (by omega) (by omega) hK
theorem pw_in {k : Int} (h0 : 0 ≤ k) (h1 : k ≤ 10) : (1 : Int) ≤ 2 ^ k.toNat ∧ (2 : Int) ^ k.toNat ≤ 1024 := by
  have : ∀ j : Fin 11, (1 : Int) ≤ 2 ^ (j : Nat) ∧ (2 : Int) ^ (j : Nat) ≤ 1024 := by decide
  exact this ⟨k.toNat, by omega⟩
theorem x192l {x y z : Int} (hw : wfc (σ 150)) (hx : in8 x) (hy : in8 y) (hz : in8 z) : ∀ (m : Nat) (k : Int) (o5 : Option sxV), k + m = 11 → 1 ≤ k → K (some (vI (levelF (σ 150) x y z m k))) (T0 n) σ → Rn 192 3 [some (vR 149), some (vI x), some (vI y), some (vI z), some (vI k), o5] [] (T0 n) σ K := by
  intro m
  induction m with
  | zero =>
    intro k o5 hp h0 hK
    rw [s192_3]
    simp only [s192_0, s192_1, s192_5, s192_7, s192_10, s192_11, s192_13, s192_14, s192_15, s192_16, s192_19, s192_21, s192_23, s192_24, s192_27, s192_28, s192_30, s192_31, s192_32, s192_33, s192_36, s192_37, s192_39, s192_40, s192_43, s192_45, s192_46, s192_47, s192_48, s192_51, s192_54, s192_56, sx_push, tf, List.length_cons, List.length_nil, Option.some.injEq, exists_eq_left', Nat.reduceAdd, Nat.reduceLeDiff, true_and, and_true, true_or, or_true, Int.zero_add, Nat.zero_le, eq_self, ne_eq, not_true_eq_false, not_false_eq_true, false_implies, true_implies, implies_true, b2i_0, b2i_1, b2i_01, up_sc, sc_at, sc_sc, ite_true, ite_false, if_true, if_false, Nat.reduceEqDiff, reduceIte]
    repeat' (first | intro _ | refine And.intro ?_ ?_)
    all_goals first | exact hK | omega
  | succ m ih =>
    intro k o5 hp h0 hK
    have pw := pw_in (k := k) (by omega) (by omega)
    rw [s192_3]
    unfold levelF at hK
    rcases near_in (σ 150) k x y z with hn | ⟨n0, n1, -, -⟩
    · simp only [s192_0, s192_1, s192_5, s192_7, s192_10, s192_11, s192_13, s192_14, s192_15, s192_16, s192_19, s192_21, s192_23, s192_24, s192_27, s192_28, s192_30, s192_31, s192_32, s192_33, s192_36, s192_37, s192_39, s192_40, s192_43, s192_45, s192_46, s192_47, s192_48, s192_51, s192_54, s192_56, sx_push, tf, List.length_cons, List.length_nil, Option.some.injEq, exists_eq_left', Nat.reduceAdd, Nat.reduceLeDiff, true_and, and_true, true_or, or_true, Int.zero_add, Nat.zero_le, eq_self, ne_eq, not_true_eq_false, not_false_eq_true, false_implies, true_implies, implies_true, b2i_0, b2i_1, b2i_01, up_sc, sc_at, sc_sc, ite_true, ite_false, if_true, if_false, Nat.reduceEqDiff, reduceIte, x193 hw hx hy hz, hn]
      rw [if_neg (by omega)] at hK
      repeat' (first | intro _ | refine And.intro ?_ ?_)
      all_goals first | omega | exact ih _ _ (by omega) (by omega) hK
    · have hf := farF_in (m := σ 150 480) (hw _ n0 n1).1 (hw _ n0 n1).2.1 (hw _ n0 n1).2.2 hx hy hz
      simp only [s192_0, s192_1, s192_5, s192_7, s192_10, s192_11, s192_13, s192_14, s192_15, s192_16, s192_19, s192_21, s192_23, s192_24, s192_27, s192_28, s192_30, s192_31, s192_32, s192_33, s192_36, s192_37, s192_39, s192_40, s192_43, s192_45, s192_46, s192_47, s192_48, s192_51, s192_54, s192_56, sx_push, tf, List.length_cons, List.length_nil, Option.some.injEq, exists_eq_left', Nat.reduceAdd, Nat.reduceLeDiff, true_and, and_true, true_or, or_true, Int.zero_add, Nat.zero_le, eq_self, ne_eq, not_true_eq_false, not_false_eq_true, false_implies, true_implies, implies_true, b2i_0, b2i_1, b2i_01, up_sc, sc_at, sc_sc, ite_true, ite_false, if_true, if_false, Nat.reduceEqDiff, reduceIte, x193 hw hx hy hz, x195 hw hx hy hz n0 n1, Int.one_mul]
      repeat' (first | intro _ | refine And.intro ?_ ?_)
      all_goals first | omega | (split at hK <;> first | omega | exact hK | exact ih _ _ (by omega) (by omega) hK)
theorem x192 {x y z : Int} (hw : wfc (σ 150)) (hx : in8 x) (hy : in8 y) (hz : in8 z) : Rn 192 0 [some (vR 149), some (vI x), some (vI y), some (vI z), none, none] [] (T0 n) σ K ↔ K (some (vI (levelO (σ 150) x y z))) (T0 n) σ := by
  refine Rn_iff fun K hK => ?_
  simp only [s192_0, s192_1, s192_5, s192_7, s192_10, s192_11, s192_13, s192_14, s192_15, s192_16, s192_19, s192_21, s192_23, s192_24, s192_27, s192_28, s192_30, s192_31, s192_32, s192_33, s192_36, s192_37, s192_39, s192_40, s192_43, s192_45, s192_46, s192_47, s192_48, s192_51, s192_54, s192_56, sx_push, tf, List.length_cons, List.length_nil, Option.some.injEq, exists_eq_left', Nat.reduceAdd, Nat.reduceLeDiff, true_and, and_true, true_or, or_true, Int.zero_add, Nat.zero_le, eq_self, ne_eq, not_true_eq_false, not_false_eq_true, false_implies, true_implies, implies_true, b2i_0, b2i_1, b2i_01, up_sc, sc_at, sc_sc, ite_true, ite_false, if_true, if_false, Nat.reduceEqDiff, reduceIte]
  exact x192l hw hx hy hz 10 1 none (by omega) (by omega) hK
theorem x191 {p x y z : Int} (hw : wfc (σ 150)) (hx : in8 x) (hy : in8 y) (hz : in8 z) (h0 : 0 ≤ p) (h1 : p < 40) : Rn 191 0 [some (vR 149), some (vI p), some (vI x), some (vI y), some (vI z), none, none] [] (T0 n) σ K ↔ K none (T0 n) (sc σ 150 (comesF (σ 150) p x y z)) := by
  refine Rn_iff fun K hK => ?_
  have hl := levelF_in (σ 150) x y z 10 1 (by omega) (by omega)
  have hl' : 0 ≤ levelO (σ 150) x y z ∧ levelO (σ 150) x y z ≤ 10 := hl
  simp only [s191_0, s191_1, s191_2, s191_3, s191_5, s191_8, s191_10, s191_12, s191_14, s191_17, s191_18, s191_21, s191_22, s191_24, s191_25, s191_26, s191_27, s191_28, s191_30, s191_33, s191_35, s191_36, s191_39, s191_40, s191_41, s191_42, s191_43, s191_44, s191_45, s191_48, s191_50, s191_51, s191_52, s191_53, s191_54, s191_55, s191_58, s191_60, s191_61, s191_62, s191_63, s191_64, s191_65, s191_68, s191_70, s191_71, s191_72, s191_74, s191_75, s191_76, s191_79, s191_82, s191_83, s191_84, s191_86, s191_87, s191_88, s191_91, s191_94, s191_95, s191_96, s191_98, s191_99, sx_push, tf, List.length_cons, List.length_nil, Option.some.injEq, exists_eq_left', Nat.reduceAdd, Nat.reduceLeDiff, true_and, and_true, true_or, or_true, Int.zero_add, Nat.zero_le, eq_self, ne_eq, not_true_eq_false, not_false_eq_true, false_implies, true_implies, implies_true, b2i_0, b2i_1, b2i_01, up_sc, sc_at, sc_sc, ite_true, ite_false, if_true, if_false, Nat.reduceEqDiff, reduceIte, x192 hw hx hy hz, x193 hw hx hy hz]
  unfold comesF at hK
  refine ⟨fun h => ?_, fun h => ?_⟩
  · rw [if_neg h] at hK
    repeat' (first | intro _ | refine And.intro ?_ ?_)
    all_goals first | exact hK | omega
  · rw [if_pos h] at hK
    repeat' (first | intro _ | refine And.intro ?_ ?_)
    all_goals first | exact hK | omega
end M3
