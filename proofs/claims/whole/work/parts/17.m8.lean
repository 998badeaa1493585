/-! the reference: acts kept and undone, the tape, one that may come -/
def blkF (g : Int → Int) (b : Int) (h : Int → Int) (i : Int) : Int → Int := fun j => if b ≤ j ∧ j < b + i then g (j - b) else h j
theorem blkF_0 (g : Int → Int) (b : Int) (h : Int → Int) : blkF g b h 0 = h := by
  funext j; unfold blkF; rw [if_neg (by omega)]
theorem blkF_s {g : Int → Int} {b : Int} {h : Int → Int} {i : Int} (hi : 0 ≤ i) : up1 (blkF g b h i) (b + i) (g i) = blkF g b h (i + 1) := by
  funext j
  unfold up1 blkF
  by_cases e : j = b + i
  · rw [if_pos e, if_pos (by omega), show j - b = i by omega]
  · rw [if_neg e]
    by_cases z : b ≤ j ∧ j < b + i
    · rw [if_pos z, if_pos (by omega)]
    · rw [if_neg z, if_neg (by omega)]
def shF (g : Int → Int) (d i : Int) : Int → Int := fun j => if 0 ≤ j ∧ j < i then g (j + d) else g j
theorem shF_0 (g : Int → Int) (d : Int) : shF g d 0 = g := by
  funext j; unfold shF; rw [if_neg (by omega)]
theorem shF_s {g : Int → Int} {d i : Int} (hi : 0 ≤ i) (hd : 0 < d) : up1 (shF g d i) i (shF g d i (i + d)) = shF g d (i + 1) := by
  funext j
  unfold up1 shF
  rw [if_neg (show ¬ (0 ≤ i + d ∧ i + d < i) by omega)]
  by_cases e : j = i
  · rw [if_pos e, if_pos (by omega), e]
  · rw [if_neg e]
    by_cases z : 0 ≤ j ∧ j < i
    · rw [if_pos z, if_pos (by omega)]
    · rw [if_neg z, if_neg (by omega)]
theorem cpo_s {g h : Int → Int} {b i : Int} (hi : 0 ≤ i) : up1 (cpF (fun j => g (b + j)) h i) i (g (b + i)) = cpF (fun j => g (b + j)) h (i + 1) := cpF_s (g := fun j => g (b + j)) hi
section M8
variable {n : Nat} {σ : sxS} {K : Option sxV → sxT → sxS → Prop}
theorem x268a : ∀ (k : Nat) (i : Int), i + k = 9139 → 0 ≤ i → Rn 268 40 [some (vR 149), some (vI 9139)] [] (T0 n) (sc σ 151 (shF (σ 151) 481 9139)) K → Rn 268 11 [some (vR 149), some (vI i)] [] (T0 n) (sc σ 151 (shF (σ 151) 481 i)) K := by
  intro k
  induction k with
  | zero =>
    intro i hi h0 hK
    obtain rfl : i = 9139 := by omega
    rw [s268_11]
    simp only [s268_12, s268_15, s268_18, s268_19, s268_22, s268_23, s268_24, s268_27, s268_28, s268_31, s268_32, s268_33, s268_34, s268_37, sx_push, tf, List.length_cons, List.length_nil, Option.some.injEq, exists_eq_left', Nat.reduceAdd, Nat.reduceLeDiff, true_and, and_true, true_or, or_true, Int.zero_add, Nat.zero_le, eq_self, ne_eq, not_true_eq_false, not_false_eq_true, false_implies, true_implies, implies_true, b2i_0, b2i_1, b2i_01, up_sc, sc_at, sc_sc, ite_true, ite_false, if_true, if_false, Nat.reduceEqDiff, reduceIte]
    repeat' (first | intro _ | refine And.intro ?_ ?_)
    all_goals first | exact hK | omega
  | succ k ih =>
    intro i hi h0 hK
    rw [s268_11]
    simp only [s268_12, s268_15, s268_18, s268_19, s268_22, s268_23, s268_24, s268_27, s268_28, s268_31, s268_32, s268_33, s268_34, s268_37, sx_push, tf, List.length_cons, List.length_nil, Option.some.injEq, exists_eq_left', Nat.reduceAdd, Nat.reduceLeDiff, true_and, and_true, true_or, or_true, Int.zero_add, Nat.zero_le, eq_self, ne_eq, not_true_eq_false, not_false_eq_true, false_implies, true_implies, implies_true, b2i_0, b2i_1, b2i_01, up_sc, sc_at, sc_sc, ite_true, ite_false, if_true, if_false, Nat.reduceEqDiff, reduceIte, shF_s h0 (show (0 : Int) < 481 by omega)]
    repeat' (first | intro _ | refine And.intro ?_ ?_)
    all_goals first | omega | exact ih _ (by omega) (by omega) hK
theorem x268b {u : Int} (hu : σ 149 4 = u) (u0 : 0 ≤ u) (u1 : u ≤ 19) : ∀ (k : Nat) (i : Int), i + k = 481 → 0 ≤ i → K none (T0 n) (sc (sc σ 151 (blkF (σ 150) (481 * u) (σ 151) 481)) 149 (up1 (σ 149) 4 (u + 1))) → Rn 268 52 [some (vR 149), some (vI i)] [] (T0 n) (sc σ 151 (blkF (σ 150) (481 * u) (σ 151) i)) K := by
  intro k
  induction k with
  | zero =>
    intro i hi h0 hK
    obtain rfl : i = 481 := by omega
    rw [s268_52]
    simp only [s268_53, s268_56, s268_59, s268_60, s268_63, s268_66, s268_67, s268_70, s268_71, s268_72, s268_73, s268_74, s268_77, s268_78, s268_79, s268_80, s268_83, s268_86, s268_87, s268_88, s268_91, s268_92, s268_93, s268_96, sx_push, tf, List.length_cons, List.length_nil, Option.some.injEq, exists_eq_left', Nat.reduceAdd, Nat.reduceLeDiff, true_and, and_true, true_or, or_true, Int.zero_add, Nat.zero_le, eq_self, ne_eq, not_true_eq_false, not_false_eq_true, false_implies, true_implies, implies_true, b2i_0, b2i_1, b2i_01, up_sc, sc_at, sc_sc, ite_true, ite_false, if_true, if_false, Nat.reduceEqDiff, reduceIte, hu]
    repeat' (first | intro _ | refine And.intro ?_ ?_)
    all_goals first | exact hK | omega
  | succ k ih =>
    intro i hi h0 hK
    rw [s268_52]
    simp only [s268_53, s268_56, s268_59, s268_60, s268_63, s268_66, s268_67, s268_70, s268_71, s268_72, s268_73, s268_74, s268_77, s268_78, s268_79, s268_80, s268_83, s268_86, s268_87, s268_88, s268_91, s268_92, s268_93, s268_96, sx_push, tf, List.length_cons, List.length_nil, Option.some.injEq, exists_eq_left', Nat.reduceAdd, Nat.reduceLeDiff, true_and, and_true, true_or, or_true, Int.zero_add, Nat.zero_le, eq_self, ne_eq, not_true_eq_false, not_false_eq_true, false_implies, true_implies, implies_true, b2i_0, b2i_1, b2i_01, up_sc, sc_at, sc_sc, ite_true, ite_false, if_true, if_false, Nat.reduceEqDiff, reduceIte, hu, blkF_s h0]
    repeat' (first | intro _ | refine And.intro ?_ ?_)
    all_goals first | omega | exact ih _ (by omega) (by omega) hK
/-- the row kept with one more act -/
def keptF (kp now : Int → Int) (u : Int) : Int → Int := if u = 20 then blkF now 9139 (shF kp 481 9139) 481 else blkF now (481 * u) kp 481
theorem x268 (u0 : 0 ≤ σ 149 4) (u1 : σ 149 4 ≤ 20) : Rn 268 0 [some (vR 149), none] [] (T0 n) σ K ↔ K none (T0 n) (sc (sc σ 151 (keptF (σ 151) (σ 150) (σ 149 4))) 149 (up1 (σ 149) 4 (if σ 149 4 = 20 then 20 else σ 149 4 + 1))) := by
  refine Rn_iff fun K hK => ?_
  unfold keptF at hK
  simp only [s268_0, s268_1, s268_4, s268_6, s268_9, s268_10, s268_50, s268_51, sx_push, tf, List.length_cons, List.length_nil, Option.some.injEq, exists_eq_left', Nat.reduceAdd, Nat.reduceLeDiff, true_and, and_true, true_or, or_true, Int.zero_add, Nat.zero_le, eq_self, ne_eq, not_true_eq_false, not_false_eq_true, false_implies, true_implies, implies_true, b2i_0, b2i_1, b2i_01, up_sc, sc_at, sc_sc, ite_true, ite_false, if_true, if_false, Nat.reduceEqDiff, reduceIte]
  refine ⟨fun h => ?_, fun h => ?_⟩
  · rw [if_neg h, if_neg h] at hK
    have := x268b (σ := σ) (n := n) rfl u0 (by omega) 481 0 (by omega) (by omega) hK
    rw [blkF_0, sc_id] at this
    exact this
  · rw [if_pos h, if_pos h] at hK
    have := x268a (σ := σ) (n := n) (K := K) 9139 0 (by omega) (by omega) ?_
    · rw [shF_0, sc_id] at this
      exact this
    · simp only [s268_40, s268_41, s268_42, s268_45, s268_46, s268_47, s268_50, s268_51, sx_push, tf, List.length_cons, List.length_nil, Option.some.injEq, exists_eq_left', Nat.reduceAdd, Nat.reduceLeDiff, true_and, and_true, true_or, or_true, Int.zero_add, Nat.zero_le, eq_self, ne_eq, not_true_eq_false, not_false_eq_true, false_implies, true_implies, implies_true, b2i_0, b2i_1, b2i_01, up_sc, sc_at, sc_sc, ite_true, ite_false, if_true, if_false, Nat.reduceEqDiff, reduceIte, h]
      have hh := x268b (σ := sc (sc σ 151 (shF (σ 151) 481 9139)) 149 (up1 (σ 149) 4 19)) (n := n) (K := K) (u := 19) (by simp [sc_at, up1]) (by omega) (by omega) 481 0 (by omega) (by omega) ?_
      · rw [blkF_0, sc_id] at hh
        exact ⟨by omega, hh⟩
      · have e : sc (sc (sc (sc σ 151 (shF (σ 151) 481 9139)) 149 (up1 (σ 149) 4 19)) 151 (blkF (σ 150) 9139 (shF (σ 151) 481 9139) 481)) 149 (up1 (up1 (σ 149) 4 19) 4 20) = sc (sc σ 151 (blkF (σ 150) 9139 (shF (σ 151) 481 9139) 481)) 149 (up1 (σ 149) 4 20) := by
          funext k' j
          unfold sc up1
          by_cases a : k' = 149
          · simp [a]; by_cases z : j = 4 <;> simp [z]
          · by_cases b : k' = 151
            · simp [b]
            · simp [a, b]
        simp only [sc_at, if_true, if_false, Nat.reduceEqDiff, reduceIte]
        rw [show (481 : Int) * 19 = 9139 by decide, show (19 : Int) + 1 = 20 by decide, e]
        exact hK
theorem x278l {u : Int} (hu : σ 149 4 = u) (u0 : 0 ≤ u) (u1 : u ≤ 19) : ∀ (k : Nat) (i : Int), i + k = 481 → 0 ≤ i → K (some (vI 1)) (T0 n) (sc σ 150 (cpF (fun j => σ 151 (481 * u + j)) (σ 150) 481)) → Rn 278 25 [some (vR 149), some (vI i)] [] (T0 n) (sc σ 150 (cpF (fun j => σ 151 (481 * u + j)) (σ 150) i)) K := by
  intro k
  induction k with
  | zero =>
    intro i hi h0 hK
    obtain rfl : i = 481 := by omega
    rw [s278_25]
    simp only [s278_26, s278_29, s278_32, s278_33, s278_36, s278_37, s278_38, s278_41, s278_44, s278_45, s278_48, s278_49, s278_50, s278_51, s278_52, s278_53, s278_56, s278_59, s278_60, sx_push, tf, List.length_cons, List.length_nil, Option.some.injEq, exists_eq_left', Nat.reduceAdd, Nat.reduceLeDiff, true_and, and_true, true_or, or_true, Int.zero_add, Nat.zero_le, eq_self, ne_eq, not_true_eq_false, not_false_eq_true, false_implies, true_implies, implies_true, b2i_0, b2i_1, b2i_01, up_sc, sc_at, sc_sc, ite_true, ite_false, if_true, if_false, Nat.reduceEqDiff, reduceIte, hu]
    repeat' (first | intro _ | refine And.intro ?_ ?_)
    all_goals first | exact hK | omega
  | succ k ih =>
    intro i hi h0 hK
    rw [s278_25]
    simp only [s278_26, s278_29, s278_32, s278_33, s278_36, s278_37, s278_38, s278_41, s278_44, s278_45, s278_48, s278_49, s278_50, s278_51, s278_52, s278_53, s278_56, s278_59, s278_60, sx_push, tf, List.length_cons, List.length_nil, Option.some.injEq, exists_eq_left', Nat.reduceAdd, Nat.reduceLeDiff, true_and, and_true, true_or, or_true, Int.zero_add, Nat.zero_le, eq_self, ne_eq, not_true_eq_false, not_false_eq_true, false_implies, true_implies, implies_true, b2i_0, b2i_1, b2i_01, up_sc, sc_at, sc_sc, ite_true, ite_false, if_true, if_false, Nat.reduceEqDiff, reduceIte, hu, cpo_s h0]
    repeat' (first | intro _ | refine And.intro ?_ ?_)
    all_goals first | omega | exact ih _ (by omega) (by omega) hK
theorem x278 (u0 : 0 ≤ σ 149 4) (u1 : σ 149 4 ≤ 20) (hr : inI (σ 155 4 + 1)) : Rn 278 0 [some (vR 149), none] [] (T0 n) σ K ↔ K (some (vI (b2i (σ 149 4 ≠ 0)))) (T0 n) (if σ 149 4 = 0 then sc σ 155 (up1 (σ 155) 4 (σ 155 4 + 1)) else sc (sc σ 149 (up1 (σ 149) 4 (σ 149 4 - 1))) 150 (cpF (fun j => σ 151 (481 * (σ 149 4 - 1) + j)) (σ 150) 481)) := by
  refine Rn_iff fun K hK => ?_
  simp only [s278_0, s278_1, s278_4, s278_7, s278_8, s278_9, s278_12, s278_13, s278_14, s278_15, s278_18, s278_19, s278_20, s278_23, s278_24, s278_26, s278_29, s278_32, s278_33, s278_36, s278_37, s278_38, s278_41, s278_44, s278_45, s278_48, s278_49, s278_50, s278_51, s278_52, s278_53, s278_56, s278_59, s278_60, sx_push, tf, List.length_cons, List.length_nil, Option.some.injEq, exists_eq_left', Nat.reduceAdd, Nat.reduceLeDiff, true_and, and_true, true_or, or_true, Int.zero_add, Nat.zero_le, eq_self, ne_eq, not_true_eq_false, not_false_eq_true, false_implies, true_implies, implies_true, b2i_0, b2i_1, b2i_01, up_sc, sc_at, sc_sc, ite_true, ite_false, if_true, if_false, Nat.reduceEqDiff, reduceIte, x172 (w := 4) (by omega) (by omega) hr]
  by_cases h : σ 149 4 = 0
  · rw [if_pos h, b2i_f (by omega)] at hK
    repeat' (first | intro _ | refine And.intro ?_ ?_)
    all_goals first | exact hK | omega
  · rw [if_neg h, b2i_t h] at hK
    refine ⟨fun _ => ⟨by omega, ?_⟩, fun z => absurd z h⟩
    have := x278l (σ := sc σ 149 (up1 (σ 149) 4 (σ 149 4 - 1))) (n := n) (K := K) (u := σ 149 4 - 1) (by simp [sc_at, up1]) (by omega) (by omega) 481 0 (by omega) (by omega) (by simpa [sc_at] using hK)
    rw [cpF_0, sc_id] at this
    exact this
end M8
