/-! reads of the reference -/
theorem Rn_iff {mi pc : Nat} {L : sxL} {st : List sxV} {T T' : sxT} {σ σ' : sxS} {r : Option sxV} {K : Option sxV → sxT → sxS → Prop} (h : ∀ K : Option sxV → sxT → sxS → Prop, K r T' σ' → Rn mi pc L st T σ K) : Rn mi pc L st T σ K ↔ K r T' σ' := Rn_det (h _ ⟨rfl, rfl, rfl⟩)
section P1
variable {n : Nat} {σ : sxS} {K : Option sxV → sxT → sxS → Prop}
theorem x185 {v lo hi : Int} : Rn 185 0 [some (vI v), some (vI lo), some (vI hi)] [] (T0 n) σ K ↔ K (some (vI (if lo ≤ v ∧ v ≤ hi then 1 else 0))) (T0 n) σ := by
  refine Rn_iff fun K hK => ?_
  simp only [s185_0, s185_1, s185_2, s185_5, s185_6, s185_7, s185_10, s185_11, s185_14, s185_15, sx_push, tf, List.length_cons, List.length_nil, Option.some.injEq, exists_eq_left', Nat.reduceAdd, Nat.reduceLeDiff, true_and, and_true, Int.zero_add, Nat.zero_le]
  refine ⟨fun h1 => ?_, fun h1 => ⟨fun h2 => ?_, fun h2 => ?_⟩⟩
  all_goals sorry
theorem x194 {p l : Int} (h0 : 0 ≤ p) (h1 : p < 40) : Rn 194 0 [some (vR 149), some (vI p), some (vI l)] [] (T0 n) σ K ↔ K (some (vI (if σ 150 p = 1 ∧ l ≤ σ 150 (160 + p) then 1 else 0))) (T0 n) σ := by
  refine Rn_iff fun K hK => ?_
  simp only [s194_0, s194_1, s194_4, s194_5, s194_6, s194_7, s194_8, s194_9, s194_12, s194_13, s194_16, s194_19, s194_20, s194_21, s194_22, s194_23, s194_26, s194_27, s194_30, s194_31, sx_push, tf, List.length_cons, List.length_nil, Option.some.injEq, exists_eq_left', Nat.reduceAdd, Nat.reduceLeDiff, true_and, and_true, Int.zero_add, Nat.zero_le]
  trace_state
  sorry
def cnt1 (f : Int → Int) : Nat → Int → Int → Int
  | 0, _, a => a
  | k + 1, p, a => cnt1 f k (p + 1) (a + f p)
theorem x202l (h01 : ∀ p, σ 150 p = 0 ∨ σ 150 p = 1) : ∀ (k : Nat) (p a : Int), p + k = 40 → 0 ≤ p → 0 ≤ a → a ≤ p → (Rn 202 4 [some (vR 149), some (vI a), some (vI p)] [] (T0 n) σ K ↔ K (some (vI (cnt1 (σ 150) k p a))) (T0 n) σ) := by
  intro k
  induction k with
  | zero =>
    intro p a hp h0 h1 h2
    refine Rn_iff fun K hK => ?_
    rw [s202_4]
    simp only [s202_0, s202_1, s202_2, s202_3, s202_5, s202_7, s202_10, s202_11, s202_12, s202_15, s202_16, s202_17, s202_18, s202_19, s202_20, s202_21, s202_24, s202_27, s202_28, sx_push, tf, List.length_cons, List.length_nil, Option.some.injEq, exists_eq_left', Nat.reduceAdd, Nat.reduceLeDiff, true_and, and_true, Int.zero_add, Nat.zero_le]
    refine ⟨fun h => hK, fun h => ?_⟩
    exfalso; omega
  | succ k ih =>
    intro p a hp h0 h1 h2
    refine Rn_iff fun K hK => ?_
    rw [s202_4]
    simp only [s202_0, s202_1, s202_2, s202_3, s202_5, s202_7, s202_10, s202_11, s202_12, s202_15, s202_16, s202_17, s202_18, s202_19, s202_20, s202_21, s202_24, s202_27, s202_28, sx_push, tf, List.length_cons, List.length_nil, Option.some.injEq, exists_eq_left', Nat.reduceAdd, Nat.reduceLeDiff, true_and, and_true, Int.zero_add, Nat.zero_le]
    trace_state
    sorry
end P1
