/-! reads of the reference: small ones -/
theorem Rn_iff {mi pc : Nat} {L : sxL} {st : List sxV} {T T' : sxT} {σ σ' : sxS} {r : Option sxV} {K : Option sxV → sxT → sxS → Prop} (h : ∀ K : Option sxV → sxT → sxS → Prop, K r T' σ' → Rn mi pc L st T σ K) : Rn mi pc L st T σ K ↔ K r T' σ' := Rn_det (h _ ⟨rfl, rfl, rfl⟩)
def b2i (c : Prop) [Decidable c] : Int := if c then 1 else 0
theorem b2i_t {c : Prop} [Decidable c] (h : c) : b2i c = 1 := if_pos h
theorem b2i_f {c : Prop} [Decidable c] (h : ¬ c) : b2i c = 0 := if_neg h
theorem b2i_0 {c : Prop} [Decidable c] : b2i c = 0 ↔ ¬ c := by unfold b2i; split <;> simp_all
theorem b2i_1 {c : Prop} [Decidable c] : b2i c ≠ 0 ↔ c := by unfold b2i; split <;> simp_all
theorem b2i_01 {c : Prop} [Decidable c] : (b2i c = 0 ∨ b2i c = 1) ↔ True := by unfold b2i; split <;> simp_all
/-- one cell's contents anew -/
def sc (σ : sxS) (k : Nat) (g : Int → Int) : sxS := fun k' => if k' = k then g else σ k'
def up1 (f : Int → Int) (i v : Int) : Int → Int := fun j => if j = i then v else f j
theorem up_sc (σ : sxS) (k : Nat) (i v : Int) : sx_up σ k i v = sc σ k (up1 (σ k) i v) := by
  funext k' j
  unfold sx_up sc up1
  by_cases h : k' = k
  · subst h; simp
  · simp [h]
theorem sc_at (σ : sxS) (k k' : Nat) (g : Int → Int) : sc σ k g k' = if k' = k then g else σ k' := rfl
theorem sc_sc (σ : sxS) (k : Nat) (g h : Int → Int) : sc (sc σ k g) k h = sc σ k h := by
  funext k'
  unfold sc
  split <;> rfl
theorem sc_id (σ : sxS) (k : Nat) : sc σ k (σ k) = σ := by
  funext k'
  unfold sc
  split
  · rename_i h; rw [h]
  · rfl
theorem sc_comm (σ : sxS) {k k2 : Nat} (g h : Int → Int) (hk : k ≠ k2) : sc (sc σ k g) k2 h = sc (sc σ k2 h) k g := by
  funext k'
  unfold sc
  by_cases e : k' = k
  · subst e; simp [hk]
  · simp [e]
section M1
variable {n : Nat} {σ : sxS} {K : Option sxV → sxT → sxS → Prop}
theorem x185 {v lo hi : Int} : Rn 185 0 [some (vI v), some (vI lo), some (vI hi)] [] (T0 n) σ K ↔ K (some (vI (b2i (lo ≤ v ∧ v ≤ hi)))) (T0 n) σ := by
  refine Rn_iff fun K hK => ?_
  simp only [s185_0, s185_1, s185_2, s185_5, s185_6, s185_7, s185_10, s185_11, s185_14, s185_15, sx_push, tf, List.length_cons, List.length_nil, Option.some.injEq, exists_eq_left', Nat.reduceAdd, Nat.reduceLeDiff, true_and, and_true, true_or, or_true, Int.zero_add, Nat.zero_le, eq_self, ne_eq, not_true_eq_false, not_false_eq_true, false_implies, true_implies, implies_true, b2i_0, b2i_1, b2i_01, up_sc, sc_at, sc_sc, ite_true, ite_false, if_true, if_false, Nat.reduceEqDiff, reduceIte]
  repeat' (first | intro _ | refine And.intro ?_ ?_)
  all_goals (first | exact hK | omega | (rw [b2i_t] at hK <;> first | exact hK | omega) | (rw [b2i_f] at hK <;> first | exact hK | omega) | (split at hK <;> first | exact hK | omega))
theorem x199 {a b : Int} : Rn 199 0 [some (vI a), some (vI b)] [] (T0 n) σ K ↔ K (some (vI (max a b))) (T0 n) σ := by
  refine Rn_iff fun K hK => ?_
  simp only [s199_0, s199_1, s199_2, s199_5, s199_6, s199_9, s199_10, sx_push, tf, List.length_cons, List.length_nil, Option.some.injEq, exists_eq_left', Nat.reduceAdd, Nat.reduceLeDiff, true_and, and_true, true_or, or_true, Int.zero_add, Nat.zero_le, eq_self, ne_eq, not_true_eq_false, not_false_eq_true, false_implies, true_implies, implies_true, b2i_0, b2i_1, b2i_01, up_sc, sc_at, sc_sc, ite_true, ite_false, if_true, if_false, Nat.reduceEqDiff, reduceIte]
  refine ⟨fun h => ?_, fun h => ?_⟩
  · rw [show max a b = b by omega] at hK; exact hK
  · rw [show max a b = a by omega] at hK; exact hK
theorem x198 {a : Int} (h0 : -1000 ≤ a) : Rn 198 0 [some (vI a)] [] (T0 n) σ K ↔ K (some (vI (if a < 0 then -a else a))) (T0 n) σ := by
  refine Rn_iff fun K hK => ?_
  simp only [s198_0, s198_1, s198_4, s198_5, s198_6, s198_9, s198_10, sx_push, tf, List.length_cons, List.length_nil, Option.some.injEq, exists_eq_left', Nat.reduceAdd, Nat.reduceLeDiff, true_and, and_true, true_or, or_true, Int.zero_add, Nat.zero_le, eq_self, ne_eq, not_true_eq_false, not_false_eq_true, false_implies, true_implies, implies_true, b2i_0, b2i_1, b2i_01, up_sc, sc_at, sc_sc, ite_true, ite_false, if_true, if_false, Nat.reduceEqDiff, reduceIte]
  repeat' (first | intro _ | refine And.intro ?_ ?_)
  all_goals (first | exact hK | omega | (rw [b2i_t] at hK <;> first | exact hK | omega) | (rw [b2i_f] at hK <;> first | exact hK | omega) | (split at hK <;> first | exact hK | omega))
theorem x194 {p l : Int} (h0 : 0 ≤ p) (h1 : p < 40) : Rn 194 0 [some (vR 149), some (vI p), some (vI l)] [] (T0 n) σ K ↔ K (some (vI (b2i (σ 150 p = 1 ∧ l ≤ σ 150 (160 + p))))) (T0 n) σ := by
  refine Rn_iff fun K hK => ?_
  simp only [s194_0, s194_1, s194_4, s194_5, s194_6, s194_7, s194_8, s194_9, s194_12, s194_13, s194_16, s194_19, s194_20, s194_21, s194_22, s194_23, s194_26, s194_27, s194_30, s194_31, sx_push, tf, List.length_cons, List.length_nil, Option.some.injEq, exists_eq_left', Nat.reduceAdd, Nat.reduceLeDiff, true_and, and_true, true_or, or_true, Int.zero_add, Nat.zero_le, eq_self, ne_eq, not_true_eq_false, not_false_eq_true, false_implies, true_implies, implies_true, b2i_0, b2i_1, b2i_01, up_sc, sc_at, sc_sc, ite_true, ite_false, if_true, if_false, Nat.reduceEqDiff, reduceIte]
  repeat' (first | intro _ | refine And.intro ?_ ?_)
  all_goals (first | exact hK | omega | (rw [b2i_t] at hK <;> first | exact hK | omega) | (rw [b2i_f] at hK <;> first | exact hK | omega) | (split at hK <;> first | exact hK | omega))
def cntF (f : Int → Int) : Nat → Int → Int → Int
  | 0, _, a => a
  | k + 1, p, a => cntF f k (p + 1) (a + f p)
theorem x202l (h01 : ∀ p, 0 ≤ p → p < 40 → σ 150 p = 0 ∨ σ 150 p = 1) : ∀ (k : Nat) (p a : Int), p + k = 40 → 0 ≤ p → 0 ≤ a → a ≤ p → K (some (vI (cntF (σ 150) k p a))) (T0 n) σ → Rn 202 4 [some (vR 149), some (vI a), some (vI p)] [] (T0 n) σ K := by
  intro k
  induction k with
  | zero =>
    intro p a hp h0 h1 h2 hK
    rw [s202_4]
    simp only [s202_0, s202_1, s202_2, s202_3, s202_5, s202_7, s202_10, s202_11, s202_12, s202_15, s202_16, s202_17, s202_18, s202_19, s202_20, s202_21, s202_24, s202_27, s202_28, sx_push, tf, List.length_cons, List.length_nil, Option.some.injEq, exists_eq_left', Nat.reduceAdd, Nat.reduceLeDiff, true_and, and_true, true_or, or_true, Int.zero_add, Nat.zero_le, eq_self, ne_eq, not_true_eq_false, not_false_eq_true, false_implies, true_implies, implies_true, b2i_0, b2i_1, b2i_01, up_sc, sc_at, sc_sc, ite_true, ite_false, if_true, if_false, Nat.reduceEqDiff, reduceIte]
    repeat' (first | intro _ | refine And.intro ?_ ?_)
    all_goals first | exact hK | omega
  | succ k ih =>
    intro p a hp h0 h1 h2 hK
    rw [s202_4]
    simp only [s202_0, s202_1, s202_2, s202_3, s202_5, s202_7, s202_10, s202_11, s202_12, s202_15, s202_16, s202_17, s202_18, s202_19, s202_20, s202_21, s202_24, s202_27, s202_28, sx_push, tf, List.length_cons, List.length_nil, Option.some.injEq, exists_eq_left', Nat.reduceAdd, Nat.reduceLeDiff, true_and, and_true, true_or, or_true, Int.zero_add, Nat.zero_le, eq_self, ne_eq, not_true_eq_false, not_false_eq_true, false_implies, true_implies, implies_true, b2i_0, b2i_1, b2i_01, up_sc, sc_at, sc_sc, ite_true, ite_false, if_true, if_false, Nat.reduceEqDiff, reduceIte]
    have := h01 p h0 (by omega)
    repeat' (first | intro _ | refine And.intro ?_ ?_)
    all_goals first | omega | exact ih _ _ (by omega) (by omega) (by omega) (by omega) hK
theorem x202 (h01 : ∀ p, 0 ≤ p → p < 40 → σ 150 p = 0 ∨ σ 150 p = 1) : Rn 202 0 [some (vR 149), none, none] [] (T0 n) σ K ↔ K (some (vI (cntF (σ 150) 40 0 0))) (T0 n) σ := by
  refine Rn_iff fun K hK => ?_
  simp only [s202_0, s202_1, s202_2, s202_3, s202_5, s202_7, s202_10, s202_11, s202_12, s202_15, s202_16, s202_17, s202_18, s202_19, s202_20, s202_21, s202_24, s202_27, s202_28, sx_push, tf, List.length_cons, List.length_nil, Option.some.injEq, exists_eq_left', Nat.reduceAdd, Nat.reduceLeDiff, true_and, and_true, true_or, or_true, Int.zero_add, Nat.zero_le, eq_self, ne_eq, not_true_eq_false, not_false_eq_true, false_implies, true_implies, implies_true, b2i_0, b2i_1, b2i_01, up_sc, sc_at, sc_sc, ite_true, ite_false, if_true, if_false, Nat.reduceEqDiff, reduceIte]
  exact x202l h01 40 0 0 (by omega) (by omega) (by omega) (by omega) hK
/-- the first of the highest level -/
def rootF (f : Int → Int) : Nat → Int → Int
  | 0, _ => -1
  | k + 1, p => if f p = 1 ∧ 10 ≤ f (160 + p) then p else rootF f k (p + 1)
theorem x203l : ∀ (k : Nat) (p : Int), p + k = 40 → 0 ≤ p → K (some (vI (rootF (σ 150) k p))) (T0 n) σ → Rn 203 2 [some (vR 149), some (vI p)] [] (T0 n) σ K := by
  intro k
  induction k with
  | zero =>
    intro p hp h0 hK
    rw [s203_2]
    simp only [s203_0, s203_1, s203_3, s203_5, s203_8, s203_9, s203_10, s203_12, s203_15, s203_18, s203_19, s203_20, s203_23, s203_26, s203_27, sx_push, tf, List.length_cons, List.length_nil, Option.some.injEq, exists_eq_left', Nat.reduceAdd, Nat.reduceLeDiff, true_and, and_true, true_or, or_true, Int.zero_add, Nat.zero_le, eq_self, ne_eq, not_true_eq_false, not_false_eq_true, false_implies, true_implies, implies_true, b2i_0, b2i_1, b2i_01, up_sc, sc_at, sc_sc, ite_true, ite_false, if_true, if_false, Nat.reduceEqDiff, reduceIte]
    repeat' (first | intro _ | refine And.intro ?_ ?_)
    all_goals first | exact hK | omega
  | succ k ih =>
    intro p hp h0 hK
    rw [s203_2]
    simp only [s203_0, s203_1, s203_3, s203_5, s203_8, s203_9, s203_10, s203_12, s203_15, s203_18, s203_19, s203_20, s203_23, s203_26, s203_27, sx_push, tf, List.length_cons, List.length_nil, Option.some.injEq, exists_eq_left', Nat.reduceAdd, Nat.reduceLeDiff, true_and, and_true, true_or, or_true, Int.zero_add, Nat.zero_le, eq_self, ne_eq, not_true_eq_false, not_false_eq_true, false_implies, true_implies, implies_true, b2i_0, b2i_1, b2i_01, up_sc, sc_at, sc_sc, ite_true, ite_false, if_true, if_false, Nat.reduceEqDiff, reduceIte, x194 h0 (show p < 40 by omega)]
    unfold rootF at hK
    repeat' (first | intro _ | refine And.intro ?_ ?_)
    all_goals first | omega | (split at hK <;> first | exact hK | omega | exact ih _ (by omega) (by omega) hK)
theorem x203 : Rn 203 0 [some (vR 149), none] [] (T0 n) σ K ↔ K (some (vI (rootF (σ 150) 40 0))) (T0 n) σ := by
  refine Rn_iff fun K hK => ?_
  simp only [s203_0, s203_1, s203_3, s203_5, s203_8, s203_9, s203_10, s203_12, s203_15, s203_18, s203_19, s203_20, s203_23, s203_26, s203_27, sx_push, tf, List.length_cons, List.length_nil, Option.some.injEq, exists_eq_left', Nat.reduceAdd, Nat.reduceLeDiff, true_and, and_true, true_or, or_true, Int.zero_add, Nat.zero_le, eq_self, ne_eq, not_true_eq_false, not_false_eq_true, false_implies, true_implies, implies_true, b2i_0, b2i_1, b2i_01, up_sc, sc_at, sc_sc, ite_true, ite_false, if_true, if_false, Nat.reduceEqDiff, reduceIte]
  exact x203l 40 0 (by omega) (by omega) hK
theorem x205 {p : Int} : Rn 205 0 [some (vR 149), some (vI p)] [] (T0 n) σ K ↔ K (some (vI (b2i ((0 ≤ p ∧ p < 40) ∧ σ 150 p = 1)))) (T0 n) σ := by
  refine Rn_iff fun K hK => ?_
  simp only [s205_0, s205_1, s205_2, s205_4, s205_7, s205_10, s205_11, s205_14, s205_15, s205_16, s205_17, s205_18, s205_19, s205_22, s205_23, s205_26, s205_27, sx_push, tf, List.length_cons, List.length_nil, Option.some.injEq, exists_eq_left', Nat.reduceAdd, Nat.reduceLeDiff, true_and, and_true, true_or, or_true, Int.zero_add, Nat.zero_le, eq_self, ne_eq, not_true_eq_false, not_false_eq_true, false_implies, true_implies, implies_true, b2i_0, b2i_1, b2i_01, up_sc, sc_at, sc_sc, ite_true, ite_false, if_true, if_false, Nat.reduceEqDiff, reduceIte, x185]
  repeat' (first | intro _ | refine And.intro ?_ ?_)
  all_goals (first | exact hK | omega | (rw [b2i_t] at hK <;> first | exact hK | omega) | (rw [b2i_f] at hK <;> first | exact hK | omega) | (split at hK <;> first | exact hK | omega))
theorem x226 {a b c : Int} : Rn 226 0 [some (vI a), some (vI b), some (vI c)] [] (T0 n) σ K ↔ K (some (vI (b2i ((0 ≤ a ∧ a ≤ 255) ∧ (0 ≤ b ∧ b ≤ 255) ∧ 0 ≤ c ∧ c ≤ 255)))) (T0 n) σ := by
  refine Rn_iff fun K hK => ?_
  simp only [s226_0, s226_1, s226_2, s226_5, s226_8, s226_11, s226_12, s226_13, s226_16, s226_19, s226_22, s226_23, s226_24, s226_27, s226_30, s226_33, s226_34, s226_37, s226_38, sx_push, tf, List.length_cons, List.length_nil, Option.some.injEq, exists_eq_left', Nat.reduceAdd, Nat.reduceLeDiff, true_and, and_true, true_or, or_true, Int.zero_add, Nat.zero_le, eq_self, ne_eq, not_true_eq_false, not_false_eq_true, false_implies, true_implies, implies_true, b2i_0, b2i_1, b2i_01, up_sc, sc_at, sc_sc, ite_true, ite_false, if_true, if_false, Nat.reduceEqDiff, reduceIte, x185]
  repeat' (first | intro _ | refine And.intro ?_ ?_)
  all_goals (first | exact hK | omega | (rw [b2i_t] at hK <;> first | exact hK | omega) | (rw [b2i_f] at hK <;> first | exact hK | omega) | (split at hK <;> first | exact hK | omega))
end M1
