/-! the constructors: the shapes of all cells -/
theorem sR_len (X : sxT) (o k p : Nat) : (sx_setR X o k p).length = X.length := by unfold sx_setR; rw [List.length_modify]
theorem gA (A X : sxT) (i : Nat) : (A ++ X)[A.length + i]? = X[i]? := by
  rw [List.getElem?_append_right (by omega), Nat.add_sub_cancel_left]
theorem kA (A X : sxT) (i : Nat) : sx_kd (A ++ X) (A.length + i) = sx_kd X i := by unfold sx_kd; rw [gA]
theorem kA0 (A X : sxT) : sx_kd (A ++ X) A.length = sx_kd X 0 := kA A X 0
theorem lnA (A X : sxT) (i : Nat) : sx_ln (A ++ X) (A.length + i) = sx_ln X i := by unfold sx_ln; rw [gA]
theorem rfA (A X : sxT) (i k : Nat) : sx_rf (A ++ X) (A.length + i) k = sx_rf X i k := by unfold sx_rf; rw [gA]
theorem rfA0 (A X : sxT) (k : Nat) : sx_rf (A ++ X) A.length k = sx_rf X 0 k := rfA A X 0 k
theorem setA : ∀ (A X : sxT) (i k p : Nat), sx_setR (A ++ X) (A.length + i) k p = A ++ sx_setR X i k p := by
  intro A
  induction A with
  | nil => intro X i k p; rw [List.length_nil, Nat.zero_add]; rfl
  | cons a A ih =>
    intro X i k p
    rw [show (a :: A).length + i = (A.length + i) + 1 by simp only [List.length_cons]; omega]
    show a :: sx_setR (A ++ X) (A.length + i) k p = a :: (A ++ sx_setR X i k p)
    rw [ih]
theorem setA0 (A X : sxT) (k p : Nat) : sx_setR (A ++ X) A.length k p = A ++ sx_setR X 0 k p := setA A X 0 k p
section IN
variable {n : Nat} {σ : sxS} {K : Option sxV → sxT → sxS → Prop} {A : sxT}
theorem x2i (ha : A.length < 1000) (hK : K none (A ++ [(6, 2, [some (A.length + 1), none]), (20, 1600, [])]) σ) : Rn 2 0 [some (vR A.length)] [] (A ++ [(6, 2, List.replicate 2 none)]) σ K := by
  simp only [s2_0, s2_1, s2_4, s2_5, s2_8, s2_10, s2_13, sx_push, kA0, kA, lnA, rfA, rfA0, setA0, setA, List.append_assoc, sR_len, List.length_append, List.length_cons, List.length_nil, List.length_replicate, Nat.zero_add, Nat.reduceAdd, Nat.add_assoc, Nat.zero_le, Nat.reduceLeDiff, true_and, Int.reduceToNat, Int.reduceLE, ne_eq, eq_self, not_true_eq_false, not_false_eq_true, false_implies, true_implies, implies_true, and_true]
  repeat' (first | intro _ | refine And.intro ?_ ?_)
  all_goals first | omega | rfl | exact hK
theorem x3i {p : Nat} (ha : A.length < 1000) (hp : p < A.length) (hK : K none (A ++ [(5, 9, [some p, some (A.length + 1), some (A.length + 2), none, none, none, none, none, none]), (20, 40, []), (20, 40, [])]) (sc σ A.length (up1 (σ A.length) 6 (-1)))) : Rn 3 0 [some (vR A.length), some (vR p)] [] (A ++ [(5, 9, List.replicate 9 none)]) σ K := by
  simp only [s3_0, s3_1, s3_4, s3_5, s3_7, s3_9, s3_12, s3_13, s3_15, s3_17, s3_20, s3_21, s3_22, s3_25, s3_26, s3_27, s3_30, sx_push, kA0, kA, lnA, rfA, rfA0, setA0, setA, List.append_assoc, sR_len, List.length_append, List.length_cons, List.length_nil, List.length_replicate, Nat.zero_add, Nat.reduceAdd, Nat.add_assoc, Nat.zero_le, Nat.reduceLeDiff, true_and, Int.reduceToNat, Int.reduceLE, ne_eq, eq_self, not_true_eq_false, not_false_eq_true, false_implies, true_implies, implies_true, and_true, up_sc]
  repeat' (first | intro _ | refine And.intro ?_ ?_)
  all_goals first | omega | rfl | exact hK
def ptB (o : Nat) : sxT := [(2, 7, [some (o + 1), some (o + 2), some (o + 3), some (o + 4), none, none, none]), (20, 40, []), (20, 40, []), (20, 40, []), (20, 40, [])]
def ptI (σ σ' : sxS) (o : Nat) : Prop := (∀ k, k ≠ o → k ≠ o + 2 → k ≠ o + 3 → σ' k = σ k) ∧ σ' o = up1 (up1 (σ o) 4 (-1)) 5 (-1) ∧ ∀ j, 0 ≤ j → j < 40 → σ' (o + 2) j = -1 ∧ σ' (o + 3) j = -1
theorem x4i (ha : A.length < 1000) (hK : ∀ σ', ptI σ σ' A.length → K none (A ++ ptB A.length) σ') : Rn 4 0 [some (vR A.length)] [] (A ++ [(2, 7, List.replicate 7 none)]) σ K := by
  have fin : ∀ σ', ptI σ σ' A.length → Rn 4 62 [some (vR A.length)] [] (A ++ ptB A.length) σ' K := fun σ' h => by
    rw [s4_62]; exact hK σ' h
  have mid : Rn 4 46 [some (vR A.length)] [] (A ++ ptB A.length) (sc σ A.length (up1 (up1 (σ A.length) 4 (-1)) 5 (-1))) K := by
    have k2 : sx_kd (A ++ ptB A.length) (A.length + 2) = 20 := by rw [kA]; rfl
    have l2 : sx_ln (A ++ ptB A.length) (A.length + 2) = 40 := by rw [lnA]; rfl
    have k3 : sx_kd (A ++ ptB A.length) (A.length + 3) = 20 := by rw [kA]; rfl
    have l3 : sx_ln (A ++ ptB A.length) (A.length + 3) = 40 := by rw [lnA]; rfl
    have k0 : sx_kd (A ++ ptB A.length) A.length = 2 := by rw [kA0]; rfl
    have r1 : sx_rf (A ++ ptB A.length) A.length 1 = some (A.length + 2) := by rw [rfA0]; rfl
    have r2 : sx_rf (A ++ ptB A.length) A.length 2 = some (A.length + 3) := by rw [rfA0]; rfl
    have last := fin (sc (sc (sc σ A.length (up1 (up1 (σ A.length) 4 (-1)) 5 (-1))) (A.length + 2) (cpF (fun _ => -1) (σ (A.length + 2)) 40)) (A.length + 3) (cpF (fun _ => -1) (σ (A.length + 3)) 40)) ?_
    · generalize A ++ ptB A.length = T at *
      generalize A.length = o at *
      simp only [s4_46, s4_47, s4_50, s4_51, s4_54, s4_55, s4_58, s4_59, sx_push, kA0, kA, lnA, rfA, rfA0, setA0, setA, List.append_assoc, sR_len, List.length_append, List.length_cons, List.length_nil, List.length_replicate, Nat.zero_add, Nat.reduceAdd, Nat.add_assoc, Nat.zero_le, Nat.reduceLeDiff, true_and, Int.reduceToNat, Int.reduceLE, ne_eq, eq_self, not_true_eq_false, not_false_eq_true, false_implies, true_implies, implies_true, and_true, k0, r1, r2, x5 k2 l2, x5 k3 l3, Option.some.injEq, exists_eq_left', true_and, sc_at, if_neg (show ¬ o + 2 = o by omega), if_neg (show ¬ o + 3 = o by omega), if_neg (show ¬ o + 3 = o + 2 by omega)]
      repeat' (first | intro _ | refine And.intro ?_ ?_)
      all_goals first | omega | exact last
    · refine ⟨fun k k1 k2 k3 => ?_, ?_, fun j j0 j1 => ⟨?_, ?_⟩⟩
      · rw [sc_at, if_neg k3, sc_at, if_neg k2, sc_at, if_neg k1]
      · rw [sc_at, if_neg (by omega), sc_at, if_neg (by omega), sc_at, if_pos rfl]
      · rw [sc_at, if_neg (by omega), sc_at, if_pos rfl]; unfold cpF; rw [if_pos ⟨j0, j1⟩]
      · rw [sc_at, if_pos rfl]; unfold cpF; rw [if_pos ⟨j0, j1⟩]
  simp only [s4_0, s4_1, s4_4, s4_5, s4_7, s4_9, s4_12, s4_13, s4_15, s4_17, s4_20, s4_21, s4_23, s4_25, s4_28, s4_29, s4_31, s4_33, s4_36, s4_37, s4_38, s4_41, s4_42, s4_43, sx_push, kA0, kA, lnA, rfA, rfA0, setA0, setA, List.append_assoc, sR_len, List.length_append, List.length_cons, List.length_nil, List.length_replicate, Nat.zero_add, Nat.reduceAdd, Nat.add_assoc, Nat.zero_le, Nat.reduceLeDiff, true_and, Int.reduceToNat, Int.reduceLE, ne_eq, eq_self, not_true_eq_false, not_false_eq_true, false_implies, true_implies, implies_true, and_true, up_sc, sc_at, sc_sc, reduceIte]
  repeat' (first | intro _ | refine And.intro ?_ ?_)
  all_goals first | omega | rfl | exact mid
theorem x7i {p : Nat} {v : Int} (hv : v = 0 ∨ v = 1) (ha : A.length < 1000) (hp : p < A.length) (hK : K none (A ++ [(3, 12, [some p, none, some (A.length + 1), some (A.length + 2), some (A.length + 3), some (A.length + 4), some (A.length + 5), some (A.length + 6), none, none, none, none]), (20, 40, []), (21, 40, []), (20, 40, []), (20, 40, []), (20, 40, []), (20, 40, [])]) (sc σ A.length (up1 (up1 (σ A.length) 10 (-1)) 1 (if v = 0 then 1 else -1)))) : Rn 7 0 [some (vR A.length), some (vR p), some (vI v)] [] (A ++ [(3, 12, List.replicate 12 none)]) σ K := by
  rcases hv with rfl | rfl
  · simp only [if_pos rfl] at hK
    simp only [s7_0, s7_1, s7_4, s7_5, s7_7, s7_9, s7_12, s7_13, s7_15, s7_17, s7_20, s7_21, s7_23, s7_25, s7_28, s7_29, s7_31, s7_33, s7_36, s7_37, s7_39, s7_41, s7_44, s7_45, s7_47, s7_49, s7_52, s7_53, s7_54, s7_57, s7_58, s7_59, s7_62, s7_63, s7_64, s7_67, s7_68, s7_71, s7_72, s7_75, sx_push, kA0, kA, lnA, rfA, rfA0, setA0, setA, List.append_assoc, sR_len, List.length_append, List.length_cons, List.length_nil, List.length_replicate, Nat.zero_add, Nat.reduceAdd, Nat.add_assoc, Nat.zero_le, Nat.reduceLeDiff, true_and, Int.reduceToNat, Int.reduceLE, ne_eq, eq_self, not_true_eq_false, not_false_eq_true, false_implies, true_implies, implies_true, and_true, up_sc, sc_at, sc_sc, reduceIte]
    repeat' (first | intro _ | refine And.intro ?_ ?_)
    all_goals first | omega | rfl | exact hK
  · simp only [if_neg (show ¬ (1 : Int) = 0 by decide)] at hK
    simp only [s7_0, s7_1, s7_4, s7_5, s7_7, s7_9, s7_12, s7_13, s7_15, s7_17, s7_20, s7_21, s7_23, s7_25, s7_28, s7_29, s7_31, s7_33, s7_36, s7_37, s7_39, s7_41, s7_44, s7_45, s7_47, s7_49, s7_52, s7_53, s7_54, s7_57, s7_58, s7_59, s7_62, s7_63, s7_64, s7_67, s7_68, s7_71, s7_72, s7_75, sx_push, kA0, kA, lnA, rfA, rfA0, setA0, setA, List.append_assoc, sR_len, List.length_append, List.length_cons, List.length_nil, List.length_replicate, Nat.zero_add, Nat.reduceAdd, Nat.add_assoc, Nat.zero_le, Nat.reduceLeDiff, true_and, Int.reduceToNat, Int.reduceLE, ne_eq, eq_self, not_true_eq_false, not_false_eq_true, false_implies, true_implies, implies_true, and_true, up_sc, sc_at, sc_sc, reduceIte]
    repeat' (first | intro _ | refine And.intro ?_ ?_)
    all_goals first | omega | rfl | exact hK
theorem x8i {p : Nat} (ha : A.length < 1000) (hp : p < A.length) (hK : K none (A ++ [(7, 9, [some p, some (A.length + 1), some (A.length + 2), some (A.length + 3), some (A.length + 4), some (A.length + 5), some (A.length + 6), some (A.length + 7), none]), (20, 40, []), (20, 40, []), (20, 40, []), (20, 40, []), (20, 40, []), (20, 40, []), (21, 40, [])]) σ) : Rn 8 0 [some (vR A.length), some (vR p)] [] (A ++ [(7, 9, List.replicate 9 none)]) σ K := by
  simp only [s8_0, s8_1, s8_4, s8_5, s8_7, s8_9, s8_12, s8_13, s8_15, s8_17, s8_20, s8_21, s8_23, s8_25, s8_28, s8_29, s8_31, s8_33, s8_36, s8_37, s8_39, s8_41, s8_44, s8_45, s8_47, s8_49, s8_52, s8_53, s8_55, s8_57, s8_60, s8_61, s8_62, s8_65, sx_push, kA0, kA, lnA, rfA, rfA0, setA0, setA, List.append_assoc, sR_len, List.length_append, List.length_cons, List.length_nil, List.length_replicate, Nat.zero_add, Nat.reduceAdd, Nat.add_assoc, Nat.zero_le, Nat.reduceLeDiff, true_and, Int.reduceToNat, Int.reduceLE, ne_eq, eq_self, not_true_eq_false, not_false_eq_true, false_implies, true_implies, implies_true, and_true]
  repeat' (first | intro _ | refine And.intro ?_ ?_)
  all_goals first | omega | rfl | exact hK
theorem x9i {p : Nat} (ha : A.length < 1000) (hp : p < A.length) (hK : K none (A ++ [(4, 6, [some p, some (A.length + 1), some (A.length + 2), some (A.length + 3), some (A.length + 4), none]), (20, 12, []), (20, 12, []), (20, 12, []), (21, 3, [])]) σ) : Rn 9 0 [some (vR A.length), some (vR p)] [] (A ++ [(4, 6, List.replicate 6 none)]) σ K := by
  simp only [s9_0, s9_1, s9_4, s9_5, s9_7, s9_9, s9_12, s9_13, s9_15, s9_17, s9_20, s9_21, s9_23, s9_25, s9_28, s9_29, s9_30, s9_32, s9_35, s9_36, s9_37, s9_40, sx_push, kA0, kA, lnA, rfA, rfA0, setA0, setA, List.append_assoc, sR_len, List.length_append, List.length_cons, List.length_nil, List.length_replicate, Nat.zero_add, Nat.reduceAdd, Nat.add_assoc, Nat.zero_le, Nat.reduceLeDiff, true_and, Int.reduceToNat, Int.reduceLE, ne_eq, eq_self, not_true_eq_false, not_false_eq_true, false_implies, true_implies, implies_true, and_true]
  repeat' (first | intro _ | refine And.intro ?_ ?_)
  all_goals first | omega | rfl | exact hK
theorem x10i (ha : A.length < 1000) (hK : K none (A ++ [(1, 2, [some (A.length + 1), none]), (20, 243, [])]) σ) : Rn 10 0 [some (vR A.length)] [] (A ++ [(1, 2, List.replicate 2 none)]) σ K := by
  simp only [s10_0, s10_1, s10_4, s10_5, s10_8, s10_10, s10_13, sx_push, kA0, kA, lnA, rfA, rfA0, setA0, setA, List.append_assoc, sR_len, List.length_append, List.length_cons, List.length_nil, List.length_replicate, Nat.zero_add, Nat.reduceAdd, Nat.add_assoc, Nat.zero_le, Nat.reduceLeDiff, true_and, Int.reduceToNat, Int.reduceLE, ne_eq, eq_self, not_true_eq_false, not_false_eq_true, false_implies, true_implies, implies_true, and_true]
  repeat' (first | intro _ | refine And.intro ?_ ?_)
  all_goals first | omega | rfl | exact hK
end IN
