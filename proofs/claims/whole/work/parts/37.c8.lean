/-! points of the class: laid anew, one that leaves -/
theorem nearF_congr {f h : Int → Int} {l x y z : Int} (h1 : ∀ q, 0 ≤ q → q < 40 → ((f q = 1 ∧ l ≤ f (160 + q)) ↔ (h q = 1 ∧ l ≤ h (160 + q)))) (h2 : ∀ q, 0 ≤ q → q < 40 → farT f q x y z = farT h q x y z) : ∀ (k : Nat) (p b : Int), p + k = 40 → 0 ≤ p → (b = -1 ∨ (0 ≤ b ∧ b < 40)) → nearF f l x y z k p b = nearF h l x y z k p b := by
  intro k
  induction k with
  | zero => intro p b _ _ _; rfl
  | succ k ih =>
    intro p b hp h0 hb
    unfold nearF
    have c1 := h1 p h0 (by omega)
    have c2 := h2 p h0 (by omega)
    have c3 : (b = -1 ∨ farT f p x y z < farT f b x y z) ↔ (b = -1 ∨ farT h p x y z < farT h b x y z) := by
      rcases hb with e | ⟨b0, b1⟩
      · simp [e]
      · rw [c2, h2 b b0 b1]
    by_cases c : (f p = 1 ∧ l ≤ f (160 + p)) ∧ (b = -1 ∨ farT f p x y z < farT f b x y z)
    · rw [if_pos c, if_pos ⟨c1.mp c.1, c3.mp c.2⟩]
      exact ih _ _ (by omega) (by omega) (Or.inr ⟨h0, by omega⟩)
    · rw [if_neg c, if_neg (fun z => c ⟨c1.mpr z.1, c3.mpr z.2⟩)]
      exact ih _ _ (by omega) (by omega) hb
theorem near_congr {f h : Int → Int} {l x y z : Int} (h1 : ∀ q, 0 ≤ q → q < 40 → ((f q = 1 ∧ l ≤ f (160 + q)) ↔ (h q = 1 ∧ l ≤ h (160 + q)))) (h2 : ∀ q, 0 ≤ q → q < 40 → farT f q x y z = farT h q x y z) : near f l x y z = near h l x y z := nearF_congr h1 h2 40 0 (-1) (by omega) (by omega) (Or.inl rfl)
theorem farT_up {f : Int → Int} {i v q x y z : Int} (hi : 160 ≤ i) (hi2 : i < 480) (q0 : 0 ≤ q) (q1 : q < 40) : farT (up1 f i v) q x y z = farT f q x y z := by
  unfold farT
  rw [up1_n (by omega), up1_n (by omega), up1_n (by omega), up1_n (by omega)]
theorem near_up {f : Int → Int} {p v l x y z : Int} (h0 : 0 ≤ p) (h1 : p < 40) (hl : f (160 + p) < l) (hv : v < l) : near (up1 f (160 + p) v) l x y z = near f l x y z := by
  refine near_congr (fun q q0 q1 => ?_) (fun q q0 q1 => farT_up (by omega) (by omega) q0 q1)
  by_cases e : q = p
  · subst e
    rw [up1_s]
    constructor
    · intro z; omega
    · intro z; omega
  · rw [up1_n (by omega), up1_n (by omega)]
theorem lvF_up {f : Int → Int} {p v x y z : Int} (h0 : 0 ≤ p) (h1 : p < 40) : ∀ (m : Nat) (k : Int), f (160 + p) < k → v < k → k + m = 10 → lvF (up1 f (160 + p) v) x y z m k = lvF f x y z m k := by
  intro m
  induction m with
  | zero => intro k _ _ _; rfl
  | succ m ih =>
    intro k h2 h3 h4
    unfold lvF
    rw [near_up h0 h1 h2 h3]
    rw [ih (k + 1) (by omega) (by omega) (by omega)]
    rcases near_in f k x y z with e | ⟨n0, n1, -, -⟩
    · rw [if_neg (fun z => z.1 e), if_neg (fun z => z.1 e)]
    · rw [farT_up (by omega) (by omega) n0 n1]
theorem riseF_lv {p r : Int} (h0 : 0 ≤ p) (h1 : p < 40) (r0 : 0 ≤ r) (r1 : r < 40) (hpr : p ≠ r) : ∀ (m : Nat) (f : Int → Int), wfc f → f r = 1 → 10 ≤ f (160 + r) → 0 ≤ f (160 + p) → f (160 + p) + (m + 1 : Nat) = 10 → riseF (m + 1) f p = up1 (up1 f (160 + p) (lvF f (f (40 + p)) (f (80 + p)) (f (120 + p)) m (f (160 + p) + 1))) (200 + p) (near f (lvF f (f (40 + p)) (f (80 + p)) (f (120 + p)) m (f (160 + p) + 1) + 1) (f (40 + p)) (f (80 + p)) (f (120 + p))) := by
  intro m
  induction m with
  | zero =>
    intro f hw hr hr' hl hm
    have e9 : f (160 + p) = 9 := by omega
    unfold riseF lvF
    have hn : near f (f (160 + p) + 1) (f (40 + p)) (f (80 + p)) (f (120 + p)) ≠ -1 := near_some r0 r1 ⟨hr, by omega⟩
    rcases near_in f (f (160 + p) + 1) (f (40 + p)) (f (80 + p)) (f (120 + p)) with h | ⟨n0, n1, -, -⟩
    · exact absurd h hn
    · have w := hw p h0 h1
      have hf := farT_in (f := f) hw n0 n1 w.1 w.2.1 w.2.2
      have : (2 : Int) * 2 ^ (f (160 + p)).toNat = 1024 := by rw [e9]; decide
      rw [if_neg (by omega)]
      funext j
      rw [show (9 : Int) = f (160 + p) from e9.symm]
      unfold up1
      split
      · rfl
      · split
        · rename_i z; rw [z]
        · rfl
  | succ m ih =>
    intro f hw hr hr' hl hm
    rw [show riseF (m + 1 + 1) f p = if near f (f (160 + p) + 1) (f (40 + p)) (f (80 + p)) (f (120 + p)) = -1 ∨ 2 * 2 ^ (f (160 + p)).toNat ≤ farT f (near f (f (160 + p) + 1) (f (40 + p)) (f (80 + p)) (f (120 + p))) (f (40 + p)) (f (80 + p)) (f (120 + p)) then riseF (m + 1) (up1 f (160 + p) (f (160 + p) + 1)) p else up1 f (200 + p) (near f (f (160 + p) + 1) (f (40 + p)) (f (80 + p)) (f (120 + p))) from rfl]
    rw [show lvF f (f (40 + p)) (f (80 + p)) (f (120 + p)) (m + 1) (f (160 + p) + 1) = if near f (f (160 + p) + 1) (f (40 + p)) (f (80 + p)) (f (120 + p)) ≠ -1 ∧ farT f (near f (f (160 + p) + 1) (f (40 + p)) (f (80 + p)) (f (120 + p))) (f (40 + p)) (f (80 + p)) (f (120 + p)) < 2 ^ (f (160 + p) + 1).toNat then f (160 + p) + 1 - 1 else lvF f (f (40 + p)) (f (80 + p)) (f (120 + p)) m (f (160 + p) + 1 + 1) from rfl]
    rw [pw_s hl]
    by_cases c : near f (f (160 + p) + 1) (f (40 + p)) (f (80 + p)) (f (120 + p)) = -1 ∨ 2 * 2 ^ (f (160 + p)).toNat ≤ farT f (near f (f (160 + p) + 1) (f (40 + p)) (f (80 + p)) (f (120 + p))) (f (40 + p)) (f (80 + p)) (f (120 + p))
    · rw [if_pos c, if_neg (by omega)]
      have u : up1 f (160 + p) (f (160 + p) + 1) (160 + p) = f (160 + p) + 1 := up1_s _ _ _
      have ih := ih (up1 f (160 + p) (f (160 + p) + 1)) (wfc_up hw (by omega)) (by rw [up1_n (by omega)]; exact hr) (by rw [up1_n (by omega)]; exact hr') (by rw [u]; omega) (by rw [u]; omega)
      rw [u, up1_n (show (40 + p : Int) ≠ 160 + p by omega), up1_n (show (80 + p : Int) ≠ 160 + p by omega), up1_n (show (120 + p : Int) ≠ 160 + p by omega), lvF_up h0 h1 m _ (by omega) (by omega) (by omega)] at ih
      rw [ih]
      have li := lvF_in f (f (40 + p)) (f (80 + p)) (f (120 + p)) m (f (160 + p) + 1 + 1) (by omega) (by omega)
      rw [near_up h0 h1 (by omega) (by omega)]
      funext j
      unfold up1
      (repeat' split) <;> rfl
    · rw [if_neg c, if_pos (by omega)]
      funext j
      rw [show f (160 + p) + 1 - 1 = f (160 + p) by omega]
      unfold up1
      split
      · rfl
      · split
        · rename_i z; rw [z]
        · rfl
theorem rise_lv {f : Int → Int} {p r : Int} (h0 : 0 ≤ p) (h1 : p < 40) (r0 : 0 ≤ r) (r1 : r < 40) (hpr : p ≠ r) (hw : wfc f) (hr : f r = 1) (hr' : 10 ≤ f (160 + r)) (hl : 0 ≤ f (160 + p)) (hl' : f (160 + p) ≤ 9) : rise f p = up1 (up1 f (160 + p) (lvF f (f (40 + p)) (f (80 + p)) (f (120 + p)) (9 - f (160 + p)).toNat (f (160 + p) + 1))) (200 + p) (near f (lvF f (f (40 + p)) (f (80 + p)) (f (120 + p)) (9 - f (160 + p)).toNat (f (160 + p) + 1) + 1) (f (40 + p)) (f (80 + p)) (f (120 + p))) := by
  unfold rise
  rw [show (10 - f (160 + p)).toNat = (9 - f (160 + p)).toNat + 1 by omega]
  exact riseF_lv h0 h1 r0 r1 hpr _ f hw hr hr' hl (by omega)
/-- all that are there wait -/
def wtF (g : Int → Int) (i : Int) : Int → Int := fun j => if (0 ≤ j ∧ j < i) ∧ 0 ≤ g j then -2 else g j
theorem wtF_0 (g : Int → Int) : wtF g 0 = g := by funext j; unfold wtF; rw [if_neg (by omega)]
theorem wtF_i (g : Int → Int) (i : Int) : wtF g i i = g i := by unfold wtF; rw [if_neg (by omega)]
theorem wtF_s {g : Int → Int} {i : Int} (h0 : 0 ≤ i) (h : 0 ≤ g i) : up1 (wtF g i) i (-2) = wtF g (i + 1) := by
  funext j
  unfold up1 wtF
  by_cases e : j = i
  · subst e; rw [if_pos rfl, if_pos ⟨by omega, h⟩]
  · rw [if_neg e]
    by_cases c : (0 ≤ j ∧ j < i) ∧ 0 ≤ g j
    · rw [if_pos c, if_pos ⟨by omega, c.2⟩]
    · rw [if_neg c, if_neg (by omega)]
theorem wtF_n {g : Int → Int} {i : Int} (h : g i < 0) : wtF g i = wtF g (i + 1) := by
  funext j
  unfold wtF
  by_cases e : j = i
  · subst e; rw [if_neg (by omega), if_neg (by omega)]
  · by_cases c : (0 ≤ j ∧ j < i) ∧ 0 ≤ g j
    · rw [if_pos c, if_pos ⟨by omega, c.2⟩]
    · rw [if_neg c, if_neg (by omega)]
/-- one who is not there has level -1 -/
def rB (σ : sxS) (o : Nat) (f : Int → Int) : Prop := ∀ p, 0 ≤ p → p < 40 → f p = 0 → σ (o + 2) p = -1
section C8
variable {n : Nat} {σ : sxS} {K : Option sxV → sxT → sxS → Prop} {o : Nat} {f : Int → Int}
theorem x130a (ho : isP o) : ∀ (k : Nat) (i : Int), i + k = 40 → 0 ≤ i → Rn 130 31 [some (vR o), some (vI 40)] [] (T0 n) (sc σ (o + 2) (wtF (σ (o + 2)) 40)) K → Rn 130 2 [some (vR o), some (vI i)] [] (T0 n) (sc σ (o + 2) (wtF (σ (o + 2)) i)) K := by
  intro k
  induction k with
  | zero =>
    intro i hi h0 hK
    obtain rfl : i = 40 := by omega
    rw [s130_2]
    simp only [s130_3, s130_5, s130_8, s130_9, s130_12, s130_13, s130_14, s130_17, s130_18, s130_21, s130_22, s130_24, s130_25, s130_28, sx_push, tf, List.length_cons, List.length_nil, Option.some.injEq, exists_eq_left', Nat.reduceAdd, Nat.reduceLeDiff, true_and, and_true, true_or, or_true, Int.zero_add, Nat.zero_le, eq_self, ne_eq, not_true_eq_false, not_false_eq_true, false_implies, true_implies, implies_true, b2i_0, b2i_1, b2i_01, up_sc, sc_at, sc_sc, ite_true, ite_false, if_true, if_false, Nat.reduceEqDiff, reduceIte]
    repeat' (first | intro _ | refine And.intro ?_ ?_)
    all_goals first | exact hK | omega
  | succ k ih =>
    intro i hi h0 hK
    rw [s130_2]
    by_cases c : 0 ≤ σ (o + 2) i
    · simp only [s130_3, s130_5, s130_8, s130_9, s130_12, s130_13, s130_14, s130_17, s130_18, s130_21, s130_22, s130_24, s130_25, s130_28, sx_push, tf, List.length_cons, List.length_nil, Option.some.injEq, exists_eq_left', Nat.reduceAdd, Nat.reduceLeDiff, true_and, and_true, true_or, or_true, Int.zero_add, Nat.zero_le, eq_self, ne_eq, not_true_eq_false, not_false_eq_true, false_implies, true_implies, implies_true, b2i_0, b2i_1, b2i_01, up_sc, sc_at, sc_sc, ite_true, ite_false, if_true, if_false, Nat.reduceEqDiff, reduceIte, tp ho, wtF_i, wtF_s h0 c]
      repeat' (first | intro _ | refine And.intro ?_ ?_)
      all_goals first | omega | exact ih _ (by omega) (by omega) hK
    · simp only [s130_3, s130_5, s130_8, s130_9, s130_12, s130_13, s130_14, s130_17, s130_18, s130_21, s130_22, s130_24, s130_25, s130_28, sx_push, tf, List.length_cons, List.length_nil, Option.some.injEq, exists_eq_left', Nat.reduceAdd, Nat.reduceLeDiff, true_and, and_true, true_or, or_true, Int.zero_add, Nat.zero_le, eq_self, ne_eq, not_true_eq_false, not_false_eq_true, false_implies, true_implies, implies_true, b2i_0, b2i_1, b2i_01, up_sc, sc_at, sc_sc, ite_true, ite_false, if_true, if_false, Nat.reduceEqDiff, reduceIte, tp ho, wtF_i]
      repeat' (first | intro _ | refine And.intro ?_ ?_)
      all_goals first | omega | (rw [wtF_n (by omega)]; exact ih _ (by omega) (by omega) hK)
theorem x130b (ho : isP o) {f0 : Int → Int} (h01 : th01 f0) : ∀ (k : Nat) (i : Int) (σ : sxS) (h : Int → Int), i + k = 40 → 0 ≤ i → rA σ o h → invF h → (∀ q, 0 ≤ q → q < 40 → f0 q = 1 → σ o 4 = h 480) → (∀ q, i ≤ q → q < 40 → h q = 0) → (∀ q, i ≤ q → q < 40 → f0 q = 1 → σ (o + 2) q = -2 ∧ σ (o + 1) q = pk (h (40 + q)) (h (80 + q)) (h (120 + q))) → rB σ o f0 → (∀ σ', fr σ σ' o (o + 4) → σ' (o + 4) = σ (o + 4) → σ' o 4 = σ o 4 → rA σ' o (anewL f0 k i h) → rB σ' o f0 → K none (T0 n) σ') → Rn 130 43 [some (vR o), some (vI i)] [] (T0 n) σ K := by
  intro k
  induction k with
  | zero =>
    intro i σ h hi h0 ha hinv hm hz hw hb hK
    rw [s130_43]
    simp only [s130_44, s130_46, s130_49, s130_50, s130_53, s130_54, s130_55, s130_57, s130_60, s130_61, s130_62, s130_63, s130_66, s130_67, s130_68, s130_71, s130_74, s130_77, sx_push, tf, List.length_cons, List.length_nil, Option.some.injEq, exists_eq_left', Nat.reduceAdd, Nat.reduceLeDiff, true_and, and_true, true_or, or_true, Int.zero_add, Nat.zero_le, eq_self, ne_eq, not_true_eq_false, not_false_eq_true, false_implies, true_implies, implies_true, b2i_0, b2i_1, b2i_01, up_sc, sc_at, sc_sc, ite_true, ite_false, if_true, if_false, Nat.reduceEqDiff, reduceIte]
    repeat' (first | intro _ | refine And.intro ?_ ?_)
    all_goals first | omega | exact hK σ fr_rfl rfl rfl ha hb
  | succ k ih =>
    intro i σ h hi h0 ha hinv hm hz hw hb hK
    have h1 : i < 40 := by omega
    unfold anewL at hK
    rw [s130_43]
    rcases h01 i h0 h1 with c | c
    · rw [if_neg (by omega)] at hK
      have e := hb i h0 h1 c
      simp only [s130_44, s130_46, s130_49, s130_50, s130_53, s130_54, s130_55, s130_57, s130_71, s130_74, sx_push, tf, List.length_cons, List.length_nil, Option.some.injEq, exists_eq_left', Nat.reduceAdd, Nat.reduceLeDiff, true_and, and_true, true_or, or_true, Int.zero_add, Nat.zero_le, eq_self, ne_eq, not_true_eq_false, not_false_eq_true, false_implies, true_implies, implies_true, b2i_0, b2i_1, b2i_01, up_sc, sc_at, sc_sc, ite_true, ite_false, if_true, if_false, Nat.reduceEqDiff, reduceIte, tp ho, e]
      repeat' (first | intro _ | refine And.intro ?_ ?_)
      all_goals first | omega | exact ih (i + 1) σ h (by omega) (by omega) ha hinv hm (fun q a b => hz q (by omega) b) (fun q a b => hw q (by omega) b) hb hK
    · rw [if_pos c] at hK
      have e := hw i (by omega) h1 c
      have wi := hinv.2.1 i h0 h1
      simp only [s130_44, s130_46, s130_49, s130_50, s130_53, s130_54, s130_55, s130_57, s130_60, s130_61, s130_62, s130_63, s130_66, s130_67, s130_68, sx_push, tf, List.length_cons, List.length_nil, Option.some.injEq, exists_eq_left', Nat.reduceAdd, Nat.reduceLeDiff, true_and, and_true, true_or, or_true, Int.zero_add, Nat.zero_le, eq_self, ne_eq, not_true_eq_false, not_false_eq_true, false_implies, true_implies, implies_true, b2i_0, b2i_1, b2i_01, up_sc, sc_at, sc_sc, ite_true, ite_false, if_true, if_false, Nat.reduceEqDiff, reduceIte, tp ho, e.1, e.2]
      repeat' (first | intro _ | refine And.intro ?_ ?_)
      all_goals first | omega | skip
      refine x36 ho ha hinv (hm i h0 h1 c) h0 h1 (hz i (by omega) h1) wi.1 wi.2.1 wi.2.2 (fun σ' a1 a2 a3 a4 a5 => ?_)
      simp only [s130_71, s130_74, sx_push, tf, List.length_cons, List.length_nil, Option.some.injEq, exists_eq_left', Nat.reduceAdd, Nat.reduceLeDiff, true_and, and_true, true_or, or_true, Int.zero_add, Nat.zero_le, eq_self, ne_eq, not_true_eq_false, not_false_eq_true, false_implies, true_implies, implies_true, b2i_0, b2i_1, b2i_01, up_sc, sc_at, sc_sc, ite_true, ite_false, if_true, if_false, Nat.reduceEqDiff, reduceIte]
      repeat' (first | intro _ | refine And.intro ?_ ?_)
      all_goals first | omega | skip
      have ne : ∀ q, i + 1 ≤ q → q < 40 → comesF h i (h (40 + i)) (h (80 + i)) (h (120 + i)) q = h q ∧ comesF h i (h (40 + i)) (h (80 + i)) (h (120 + i)) (40 + q) = h (40 + q) ∧ comesF h i (h (40 + i)) (h (80 + i)) (h (120 + i)) (80 + q) = h (80 + q) ∧ comesF h i (h (40 + i)) (h (80 + i)) (h (120 + i)) (120 + q) = h (120 + q) := fun q a b => ⟨comesF_n (by omega) (by omega) (by omega) (by omega) (by omega) (by omega), comesF_n (by omega) (by omega) (by omega) (by omega) (by omega) (by omega), comesF_n (by omega) (by omega) (by omega) (by omega) (by omega) (by omega), comesF_n (by omega) (by omega) (by omega) (by omega) (by omega) (by omega)⟩
      refine ih (i + 1) σ' _ (by omega) (by omega) a5 (inv_comes hinv h0 h1 (by have := hz i (by omega) h1; omega) wi.1 wi.2.1 wi.2.2) (fun q a b d => ?_) (fun q a b => ?_) (fun q a b d => ?_) (fun q a b d => ?_) (fun σ2 b1 b2 b3 b4 b5 => hK σ2 (fr_tr a1 b1) (b2.trans a2) (b3.trans a3) b4 b5)
      · rw [a3, comesF_n (by omega) (by omega) (by omega) (by omega) (by omega) (by omega)]; exact hm q a b d
      · rw [(ne q a b).1]; exact hz q (by omega) b
      · rw [(a4 q (by omega)).1, (a4 q (by omega)).2, (ne q a b).2.1, (ne q a b).2.2.1, (ne q a b).2.2.2]
        exact hw q (by omega) b d
      · by_cases e2 : q = i
        · subst e2; omega
        · rw [(a4 q e2).2]; exact hb q a b d
theorem x130 (ho : isP o) (ha : rA σ o f) (hi : invF f) (hb : rB σ o f) (hK : ∀ σ', fr σ σ' o (o + 4) → σ' (o + 4) = σ (o + 4) → σ' o 4 = σ o 4 → rA σ' o (anewF f) → rB σ' o f → K none (T0 n) σ') : Rn 130 0 [some (vR o), none] [] (T0 n) σ K := by
  obtain ⟨hr, hp, hroot, hcnt⟩ := ha
  have h0 : ∀ q, 0 ≤ q → q < 40 → cpF (fun _ => 0) f 40 q = 0 := fun q a b => by unfold cpF; rw [if_pos ⟨a, b⟩]
  have hj : ∀ j, 40 ≤ j → cpF (fun _ => 0) f 40 j = f j := fun j a => by unfold cpF; rw [if_neg (by omega)]
  have hinv : invF (cpF (fun _ => 0) f 40) := inv_empty (wfc_cp hi.2.1) h0
  have main : Rn 130 31 [some (vR o), some (vI 40)] [] (T0 n) (sc σ (o + 2) (wtF (σ (o + 2)) 40)) K := by
    simp only [s130_31, s130_32, s130_33, s130_36, s130_37, s130_38, s130_41, s130_42, sx_push, tf, List.length_cons, List.length_nil, Option.some.injEq, exists_eq_left', Nat.reduceAdd, Nat.reduceLeDiff, true_and, and_true, true_or, or_true, Int.zero_add, Nat.zero_le, eq_self, ne_eq, not_true_eq_false, not_false_eq_true, false_implies, true_implies, implies_true, b2i_0, b2i_1, b2i_01, up_sc, sc_at, sc_sc, ite_true, ite_false, if_true, if_false, Nat.reduceEqDiff, reduceIte, tp ho, oq o]
    refine x130b ho hi.1 40 0 _ (cpF (fun _ => 0) f 40) (by omega) (by omega) ⟨fun q a b => ?_, fun q a b d => ?_, ?_, ?_⟩ hinv (fun q a b d => ?_) (fun q a b => h0 q a b) (fun q a b d => ?_) (fun q a b d => ?_) (fun σ2 b1 b2 b3 b4 b5 => hK σ2 (fr_tr (fr_sc (fr_sc fr_rfl (by omega) (by omega)) (by omega) (by omega)) b1) ?_ ?_ b4 b5)
    · refine Or.inr ⟨h0 q a b, ?_⟩
      simp only [sc_at, oq o, if_true, if_false]
      unfold wtF
      split <;> omega
    · rw [h0 q a b] at d; cases d
    · rw [root_none (fun q a b => by rw [h0 q a b]; decide)]
      simp [sc_at, up1]
    · rw [cntF_congr (g := fun _ => 0) 40 0 0 (fun q a b => h0 q a (by omega))]
      simp only [sc_at, oq o, if_true, if_false]
      rw [up1_s]; rfl
    · simp only [sc_at, oq o, if_true, if_false]
      rw [up1_n (by omega), up1_n (by omega), hj 480 (by omega)]
      rcases hr q a b with ⟨c1, c2, c3, c4, c5, c6⟩ | ⟨c1, c2⟩
      · exact c6
      · omega
    · simp only [sc_at, oq o, if_true, if_false]
      rw [hj _ (by omega), hj _ (by omega), hj _ (by omega)]
      rcases hr q a b with ⟨c1, c2, c3, c4, c5, c6⟩ | ⟨c1, c2⟩
      · refine ⟨?_, c5⟩
        unfold wtF
        rw [if_pos ⟨⟨a, b⟩, by omega⟩]
      · omega
    · simp only [sc_at, oq o, if_true, if_false]
      have := hb q a b d
      unfold wtF
      rw [if_neg (by omega)]; exact this
    · rw [b2]; simp only [sc_at, oq o, if_false]
    · rw [b3]; simp only [sc_at, oq o, if_true, if_false]; rw [up1_n (by omega), up1_n (by omega)]
  simp only [s130_0, s130_1, sx_push, tf, List.length_cons, List.length_nil, Option.some.injEq, exists_eq_left', Nat.reduceAdd, Nat.reduceLeDiff, true_and, and_true, true_or, or_true, Int.zero_add, Nat.zero_le, eq_self, ne_eq, not_true_eq_false, not_false_eq_true, false_implies, true_implies, implies_true, b2i_0, b2i_1, b2i_01, up_sc, sc_at, sc_sc, ite_true, ite_false, if_true, if_false, Nat.reduceEqDiff, reduceIte]
  have := x130a (σ := σ) ho 40 0 (by omega) (by omega) main
  rw [wtF_0, sc_id] at this
  exact this
end C8
