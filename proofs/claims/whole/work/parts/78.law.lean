/-! the law, a call a row -/
section LW
variable {n : Nat} {c i : Int} {σ : sxS} {K : Option sxV → sxT → sxS → Prop}
theorem lw0 (hc : c < 100000) (h : Rel c σ) (i0 : 0 ≤ i) (i1 : i + 6 ≤ n) (hn : n ≤ 3072) (hs : ∀ j, inI (σ 0 j)) (hK : ∀ σ2, Rel (c + 1) σ2 → σ2 0 = σ 0 → Rn 0 1657 [some (vR 0), some (vR 1), some (vR 149), some (vI i)] [] (T0 n) σ2 K) : Rn 0 236 [some (vR 0), some (vR 1), some (vR 149), some (vI i)] [] (T0 n) σ K := by
  simp only [s0_236, s0_237, s0_238, s0_239, s0_240, s0_241, s0_242, s0_243, s0_244, s0_245, s0_246, s0_247, s0_248, s0_249, s0_250, s0_251, s0_252, s0_253, s0_254, s0_255, s0_256, s0_257, s0_258, s0_259, s0_260, s0_261, s0_262, sx_push, tf, List.length_cons, List.length_nil, Option.some.injEq, exists_eq_left', Nat.reduceAdd, Nat.reduceLeDiff, true_and, and_true, true_or, or_true, Int.zero_add, Nat.zero_le, eq_self, ne_eq, not_true_eq_false, not_false_eq_true, false_implies, true_implies, implies_true, b2i_0, b2i_1, b2i_01, up_sc, sc_at, sc_sc, ite_true, ite_false, if_true, if_false, Nat.reduceEqDiff, reduceIte, t00]
  repeat' (first | intro _ | refine And.intro ?_ ?_)
  all_goals first | omega | skip
  refine Rn_imp (Rn_k0 (cl0 hc (hs _) (hs _) (hs _) (hs _) (hs _) σ h) t00.1) ?_
  rintro r T' σ1 ⟨⟨rfl, v, rfl, hR⟩, h0⟩
  simp only [s0_265, s0_266, s0_267, s0_268, s0_269, s0_270, s0_271, s0_272, s0_273, s0_274, s0_275, s0_276, s0_277, s0_278, s0_279, s0_280, s0_281, s0_282, s0_283, s0_284, s0_285, s0_286, s0_287, s0_288, s0_289, s0_290, s0_291, sx_push, tf, List.length_cons, List.length_nil, Option.some.injEq, exists_eq_left', Nat.reduceAdd, Nat.reduceLeDiff, true_and, and_true, true_or, or_true, Int.zero_add, Nat.zero_le, eq_self, ne_eq, not_true_eq_false, not_false_eq_true, false_implies, true_implies, implies_true, b2i_0, b2i_1, b2i_01, up_sc, sc_at, sc_sc, ite_true, ite_false, if_true, if_false, Nat.reduceEqDiff, reduceIte, t00, h0]
  repeat' (first | intro _ | refine And.intro ?_ ?_)
  all_goals first | omega | skip
  refine Rn_imp hR ?_
  rintro r2 T2 σ2 ⟨rfl, rfl, hr2, h02⟩
  simp only [s0_294, sx_push, tf, List.length_cons, List.length_nil, Option.some.injEq, exists_eq_left', Nat.reduceAdd, Nat.reduceLeDiff, true_and, and_true, true_or, or_true, Int.zero_add, Nat.zero_le, eq_self, ne_eq, not_true_eq_false, not_false_eq_true, false_implies, true_implies, implies_true, b2i_0, b2i_1, b2i_01, up_sc, sc_at, sc_sc, ite_true, ite_false, if_true, if_false, Nat.reduceEqDiff, reduceIte]
  repeat' (first | intro _ | refine And.intro ?_ ?_)
  all_goals first | omega | contradiction | exact hK σ2 hr2 h02
theorem lw1 (hc : c < 100000) (h : Rel c σ) (i0 : 0 ≤ i) (i1 : i + 6 ≤ n) (hn : n ≤ 3072) (hs : ∀ j, inI (σ 0 j)) (hK : ∀ σ2, Rel (c + 1) σ2 → σ2 0 = σ 0 → Rn 0 1657 [some (vR 0), some (vR 1), some (vR 149), some (vI i)] [] (T0 n) σ2 K) : Rn 0 299 [some (vR 0), some (vR 1), some (vR 149), some (vI i)] [] (T0 n) σ K := by
  simp only [s0_299, s0_300, s0_301, s0_302, s0_303, s0_304, s0_305, sx_push, tf, List.length_cons, List.length_nil, Option.some.injEq, exists_eq_left', Nat.reduceAdd, Nat.reduceLeDiff, true_and, and_true, true_or, or_true, Int.zero_add, Nat.zero_le, eq_self, ne_eq, not_true_eq_false, not_false_eq_true, false_implies, true_implies, implies_true, b2i_0, b2i_1, b2i_01, up_sc, sc_at, sc_sc, ite_true, ite_false, if_true, if_false, Nat.reduceEqDiff, reduceIte, t00]
  repeat' (first | intro _ | refine And.intro ?_ ?_)
  all_goals first | omega | skip
  refine Rn_imp (Rn_k0 (cl1 hc σ h) t00.1) ?_
  rintro r T' σ1 ⟨⟨rfl, v, rfl, hR⟩, h0⟩
  simp only [s0_308, s0_309, s0_310, s0_311, s0_312, s0_313, s0_314, sx_push, tf, List.length_cons, List.length_nil, Option.some.injEq, exists_eq_left', Nat.reduceAdd, Nat.reduceLeDiff, true_and, and_true, true_or, or_true, Int.zero_add, Nat.zero_le, eq_self, ne_eq, not_true_eq_false, not_false_eq_true, false_implies, true_implies, implies_true, b2i_0, b2i_1, b2i_01, up_sc, sc_at, sc_sc, ite_true, ite_false, if_true, if_false, Nat.reduceEqDiff, reduceIte, t00, h0]
  repeat' (first | intro _ | refine And.intro ?_ ?_)
  all_goals first | omega | skip
  refine Rn_imp hR ?_
  rintro r2 T2 σ2 ⟨rfl, rfl, hr2, h02⟩
  simp only [s0_317, sx_push, tf, List.length_cons, List.length_nil, Option.some.injEq, exists_eq_left', Nat.reduceAdd, Nat.reduceLeDiff, true_and, and_true, true_or, or_true, Int.zero_add, Nat.zero_le, eq_self, ne_eq, not_true_eq_false, not_false_eq_true, false_implies, true_implies, implies_true, b2i_0, b2i_1, b2i_01, up_sc, sc_at, sc_sc, ite_true, ite_false, if_true, if_false, Nat.reduceEqDiff, reduceIte]
  repeat' (first | intro _ | refine And.intro ?_ ?_)
  all_goals first | omega | contradiction | exact hK σ2 hr2 h02
theorem lw2 (hc : c < 100000) (h : Rel c σ) (i0 : 0 ≤ i) (i1 : i + 6 ≤ n) (hn : n ≤ 3072) (hs : ∀ j, inI (σ 0 j)) (hK : ∀ σ2, Rel (c + 1) σ2 → σ2 0 = σ 0 → Rn 0 1657 [some (vR 0), some (vR 1), some (vR 149), some (vI i)] [] (T0 n) σ2 K) : Rn 0 322 [some (vR 0), some (vR 1), some (vR 149), some (vI i)] [] (T0 n) σ K := by
  simp only [s0_322, s0_323, sx_push, tf, List.length_cons, List.length_nil, Option.some.injEq, exists_eq_left', Nat.reduceAdd, Nat.reduceLeDiff, true_and, and_true, true_or, or_true, Int.zero_add, Nat.zero_le, eq_self, ne_eq, not_true_eq_false, not_false_eq_true, false_implies, true_implies, implies_true, b2i_0, b2i_1, b2i_01, up_sc, sc_at, sc_sc, ite_true, ite_false, if_true, if_false, Nat.reduceEqDiff, reduceIte, t00]
  repeat' (first | intro _ | refine And.intro ?_ ?_)
  all_goals first | omega | skip
  refine Rn_imp (Rn_k0 (cl2 hc σ h) t00.1) ?_
  rintro r T' σ1 ⟨⟨rfl, v, rfl, hR⟩, h0⟩
  simp only [s0_326, s0_327, sx_push, tf, List.length_cons, List.length_nil, Option.some.injEq, exists_eq_left', Nat.reduceAdd, Nat.reduceLeDiff, true_and, and_true, true_or, or_true, Int.zero_add, Nat.zero_le, eq_self, ne_eq, not_true_eq_false, not_false_eq_true, false_implies, true_implies, implies_true, b2i_0, b2i_1, b2i_01, up_sc, sc_at, sc_sc, ite_true, ite_false, if_true, if_false, Nat.reduceEqDiff, reduceIte, t00, h0]
  repeat' (first | intro _ | refine And.intro ?_ ?_)
  all_goals first | omega | skip
  refine Rn_imp hR ?_
  rintro r2 T2 σ2 ⟨rfl, rfl, hr2, h02⟩
  simp only [s0_330, sx_push, tf, List.length_cons, List.length_nil, Option.some.injEq, exists_eq_left', Nat.reduceAdd, Nat.reduceLeDiff, true_and, and_true, true_or, or_true, Int.zero_add, Nat.zero_le, eq_self, ne_eq, not_true_eq_false, not_false_eq_true, false_implies, true_implies, implies_true, b2i_0, b2i_1, b2i_01, up_sc, sc_at, sc_sc, ite_true, ite_false, if_true, if_false, Nat.reduceEqDiff, reduceIte]
  repeat' (first | intro _ | refine And.intro ?_ ?_)
  all_goals first | omega | contradiction | exact hK σ2 hr2 h02
theorem lw3 (hc : c < 100000) (h : Rel c σ) (i0 : 0 ≤ i) (i1 : i + 6 ≤ n) (hn : n ≤ 3072) (hs : ∀ j, inI (σ 0 j)) (hK : ∀ σ2, Rel (c + 1) σ2 → σ2 0 = σ 0 → Rn 0 1657 [some (vR 0), some (vR 1), some (vR 149), some (vI i)] [] (T0 n) σ2 K) : Rn 0 335 [some (vR 0), some (vR 1), some (vR 149), some (vI i)] [] (T0 n) σ K := by
  simp only [s0_335, s0_336, s0_337, s0_338, s0_339, s0_340, s0_341, sx_push, tf, List.length_cons, List.length_nil, Option.some.injEq, exists_eq_left', Nat.reduceAdd, Nat.reduceLeDiff, true_and, and_true, true_or, or_true, Int.zero_add, Nat.zero_le, eq_self, ne_eq, not_true_eq_false, not_false_eq_true, false_implies, true_implies, implies_true, b2i_0, b2i_1, b2i_01, up_sc, sc_at, sc_sc, ite_true, ite_false, if_true, if_false, Nat.reduceEqDiff, reduceIte, t00]
  repeat' (first | intro _ | refine And.intro ?_ ?_)
  all_goals first | omega | skip
  refine Rn_imp (Rn_k0 (cl3  σ h) t00.1) ?_
  rintro r T' σ1 ⟨⟨rfl, v, rfl, hR⟩, h0⟩
  simp only [s0_344, s0_345, s0_346, s0_347, s0_348, s0_349, s0_350, sx_push, tf, List.length_cons, List.length_nil, Option.some.injEq, exists_eq_left', Nat.reduceAdd, Nat.reduceLeDiff, true_and, and_true, true_or, or_true, Int.zero_add, Nat.zero_le, eq_self, ne_eq, not_true_eq_false, not_false_eq_true, false_implies, true_implies, implies_true, b2i_0, b2i_1, b2i_01, up_sc, sc_at, sc_sc, ite_true, ite_false, if_true, if_false, Nat.reduceEqDiff, reduceIte, t00, h0]
  repeat' (first | intro _ | refine And.intro ?_ ?_)
  all_goals first | omega | skip
  refine Rn_imp hR ?_
  rintro r2 T2 σ2 ⟨rfl, rfl, hr2, h02⟩
  simp only [s0_353, sx_push, tf, List.length_cons, List.length_nil, Option.some.injEq, exists_eq_left', Nat.reduceAdd, Nat.reduceLeDiff, true_and, and_true, true_or, or_true, Int.zero_add, Nat.zero_le, eq_self, ne_eq, not_true_eq_false, not_false_eq_true, false_implies, true_implies, implies_true, b2i_0, b2i_1, b2i_01, up_sc, sc_at, sc_sc, ite_true, ite_false, if_true, if_false, Nat.reduceEqDiff, reduceIte]
  repeat' (first | intro _ | refine And.intro ?_ ?_)
  all_goals first | omega | contradiction | exact hK σ2 hr2 h02
theorem lw4 (hc : c < 100000) (h : Rel c σ) (i0 : 0 ≤ i) (i1 : i + 6 ≤ n) (hn : n ≤ 3072) (hs : ∀ j, inI (σ 0 j)) (hK : ∀ σ2, Rel (c + 1) σ2 → σ2 0 = σ 0 → Rn 0 1657 [some (vR 0), some (vR 1), some (vR 149), some (vI i)] [] (T0 n) σ2 K) : Rn 0 358 [some (vR 0), some (vR 1), some (vR 149), some (vI i)] [] (T0 n) σ K := by
  simp only [s0_358, s0_359, s0_360, s0_361, s0_362, s0_363, s0_364, sx_push, tf, List.length_cons, List.length_nil, Option.some.injEq, exists_eq_left', Nat.reduceAdd, Nat.reduceLeDiff, true_and, and_true, true_or, or_true, Int.zero_add, Nat.zero_le, eq_self, ne_eq, not_true_eq_false, not_false_eq_true, false_implies, true_implies, implies_true, b2i_0, b2i_1, b2i_01, up_sc, sc_at, sc_sc, ite_true, ite_false, if_true, if_false, Nat.reduceEqDiff, reduceIte, t00]
  repeat' (first | intro _ | refine And.intro ?_ ?_)
  all_goals first | omega | skip
  refine Rn_imp (Rn_k0 (cl4  σ h) t00.1) ?_
  rintro r T' σ1 ⟨⟨rfl, v, rfl, hR⟩, h0⟩
  simp only [s0_367, s0_368, s0_369, s0_370, s0_371, s0_372, s0_373, sx_push, tf, List.length_cons, List.length_nil, Option.some.injEq, exists_eq_left', Nat.reduceAdd, Nat.reduceLeDiff, true_and, and_true, true_or, or_true, Int.zero_add, Nat.zero_le, eq_self, ne_eq, not_true_eq_false, not_false_eq_true, false_implies, true_implies, implies_true, b2i_0, b2i_1, b2i_01, up_sc, sc_at, sc_sc, ite_true, ite_false, if_true, if_false, Nat.reduceEqDiff, reduceIte, t00, h0]
  repeat' (first | intro _ | refine And.intro ?_ ?_)
  all_goals first | omega | skip
  refine Rn_imp hR ?_
  rintro r2 T2 σ2 ⟨rfl, rfl, hr2, h02⟩
  simp only [s0_376, sx_push, tf, List.length_cons, List.length_nil, Option.some.injEq, exists_eq_left', Nat.reduceAdd, Nat.reduceLeDiff, true_and, and_true, true_or, or_true, Int.zero_add, Nat.zero_le, eq_self, ne_eq, not_true_eq_false, not_false_eq_true, false_implies, true_implies, implies_true, b2i_0, b2i_1, b2i_01, up_sc, sc_at, sc_sc, ite_true, ite_false, if_true, if_false, Nat.reduceEqDiff, reduceIte]
  repeat' (first | intro _ | refine And.intro ?_ ?_)
  all_goals first | omega | contradiction | exact hK σ2 hr2 h02
theorem lw5 (hc : c < 100000) (h : Rel c σ) (i0 : 0 ≤ i) (i1 : i + 6 ≤ n) (hn : n ≤ 3072) (hs : ∀ j, inI (σ 0 j)) (hK : ∀ σ2, Rel (c + 1) σ2 → σ2 0 = σ 0 → Rn 0 1657 [some (vR 0), some (vR 1), some (vR 149), some (vI i)] [] (T0 n) σ2 K) : Rn 0 381 [some (vR 0), some (vR 1), some (vR 149), some (vI i)] [] (T0 n) σ K := by
  simp only [s0_381, s0_382, s0_383, s0_384, s0_385, s0_386, s0_387, s0_388, s0_389, s0_390, s0_391, s0_392, sx_push, tf, List.length_cons, List.length_nil, Option.some.injEq, exists_eq_left', Nat.reduceAdd, Nat.reduceLeDiff, true_and, and_true, true_or, or_true, Int.zero_add, Nat.zero_le, eq_self, ne_eq, not_true_eq_false, not_false_eq_true, false_implies, true_implies, implies_true, b2i_0, b2i_1, b2i_01, up_sc, sc_at, sc_sc, ite_true, ite_false, if_true, if_false, Nat.reduceEqDiff, reduceIte, t00]
  repeat' (first | intro _ | refine And.intro ?_ ?_)
  all_goals first | omega | skip
  refine Rn_imp (Rn_k0 (cl5  σ h) t00.1) ?_
  rintro r T' σ1 ⟨⟨rfl, v, rfl, hR⟩, h0⟩
  simp only [s0_395, s0_396, s0_397, s0_398, s0_399, s0_400, s0_401, s0_402, s0_403, s0_404, s0_405, s0_406, sx_push, tf, List.length_cons, List.length_nil, Option.some.injEq, exists_eq_left', Nat.reduceAdd, Nat.reduceLeDiff, true_and, and_true, true_or, or_true, Int.zero_add, Nat.zero_le, eq_self, ne_eq, not_true_eq_false, not_false_eq_true, false_implies, true_implies, implies_true, b2i_0, b2i_1, b2i_01, up_sc, sc_at, sc_sc, ite_true, ite_false, if_true, if_false, Nat.reduceEqDiff, reduceIte, t00, h0]
  repeat' (first | intro _ | refine And.intro ?_ ?_)
  all_goals first | omega | skip
  refine Rn_imp hR ?_
  rintro r2 T2 σ2 ⟨rfl, rfl, hr2, h02⟩
  simp only [s0_409, sx_push, tf, List.length_cons, List.length_nil, Option.some.injEq, exists_eq_left', Nat.reduceAdd, Nat.reduceLeDiff, true_and, and_true, true_or, or_true, Int.zero_add, Nat.zero_le, eq_self, ne_eq, not_true_eq_false, not_false_eq_true, false_implies, true_implies, implies_true, b2i_0, b2i_1, b2i_01, up_sc, sc_at, sc_sc, ite_true, ite_false, if_true, if_false, Nat.reduceEqDiff, reduceIte]
  repeat' (first | intro _ | refine And.intro ?_ ?_)
  all_goals first | omega | contradiction | exact hK σ2 hr2 h02
theorem lw6 (hc : c < 100000) (h : Rel c σ) (i0 : 0 ≤ i) (i1 : i + 6 ≤ n) (hn : n ≤ 3072) (hs : ∀ j, inI (σ 0 j)) (hK : ∀ σ2, Rel (c + 1) σ2 → σ2 0 = σ 0 → Rn 0 1657 [some (vR 0), some (vR 1), some (vR 149), some (vI i)] [] (T0 n) σ2 K) : Rn 0 414 [some (vR 0), some (vR 1), some (vR 149), some (vI i)] [] (T0 n) σ K := by
  simp only [s0_414, s0_415, sx_push, tf, List.length_cons, List.length_nil, Option.some.injEq, exists_eq_left', Nat.reduceAdd, Nat.reduceLeDiff, true_and, and_true, true_or, or_true, Int.zero_add, Nat.zero_le, eq_self, ne_eq, not_true_eq_false, not_false_eq_true, false_implies, true_implies, implies_true, b2i_0, b2i_1, b2i_01, up_sc, sc_at, sc_sc, ite_true, ite_false, if_true, if_false, Nat.reduceEqDiff, reduceIte, t00]
  repeat' (first | intro _ | refine And.intro ?_ ?_)
  all_goals first | omega | skip
  refine Rn_imp (Rn_k0 (cl6  σ h) t00.1) ?_
  rintro r T' σ1 ⟨⟨rfl, v, rfl, hR⟩, h0⟩
  simp only [s0_418, s0_419, sx_push, tf, List.length_cons, List.length_nil, Option.some.injEq, exists_eq_left', Nat.reduceAdd, Nat.reduceLeDiff, true_and, and_true, true_or, or_true, Int.zero_add, Nat.zero_le, eq_self, ne_eq, not_true_eq_false, not_false_eq_true, false_implies, true_implies, implies_true, b2i_0, b2i_1, b2i_01, up_sc, sc_at, sc_sc, ite_true, ite_false, if_true, if_false, Nat.reduceEqDiff, reduceIte, t00, h0]
  repeat' (first | intro _ | refine And.intro ?_ ?_)
  all_goals first | omega | skip
  refine Rn_imp hR ?_
  rintro r2 T2 σ2 ⟨rfl, rfl, hr2, h02⟩
  simp only [s0_422, sx_push, tf, List.length_cons, List.length_nil, Option.some.injEq, exists_eq_left', Nat.reduceAdd, Nat.reduceLeDiff, true_and, and_true, true_or, or_true, Int.zero_add, Nat.zero_le, eq_self, ne_eq, not_true_eq_false, not_false_eq_true, false_implies, true_implies, implies_true, b2i_0, b2i_1, b2i_01, up_sc, sc_at, sc_sc, ite_true, ite_false, if_true, if_false, Nat.reduceEqDiff, reduceIte]
  repeat' (first | intro _ | refine And.intro ?_ ?_)
  all_goals first | omega | contradiction | exact hK σ2 hr2 h02
theorem lw7 (hc : c < 100000) (h : Rel c σ) (i0 : 0 ≤ i) (i1 : i + 6 ≤ n) (hn : n ≤ 3072) (hs : ∀ j, inI (σ 0 j)) (hK : ∀ σ2, Rel (c + 1) σ2 → σ2 0 = σ 0 → Rn 0 1657 [some (vR 0), some (vR 1), some (vR 149), some (vI i)] [] (T0 n) σ2 K) : Rn 0 427 [some (vR 0), some (vR 1), some (vR 149), some (vI i)] [] (T0 n) σ K := by
  simp only [s0_427, s0_428, s0_429, s0_430, s0_431, s0_432, s0_433, s0_434, s0_435, s0_436, s0_437, s0_438, sx_push, tf, List.length_cons, List.length_nil, Option.some.injEq, exists_eq_left', Nat.reduceAdd, Nat.reduceLeDiff, true_and, and_true, true_or, or_true, Int.zero_add, Nat.zero_le, eq_self, ne_eq, not_true_eq_false, not_false_eq_true, false_implies, true_implies, implies_true, b2i_0, b2i_1, b2i_01, up_sc, sc_at, sc_sc, ite_true, ite_false, if_true, if_false, Nat.reduceEqDiff, reduceIte, t00]
  repeat' (first | intro _ | refine And.intro ?_ ?_)
  all_goals first | omega | skip
  refine Rn_imp (Rn_k0 (cl7  σ h) t00.1) ?_
  rintro r T' σ1 ⟨⟨rfl, v, rfl, hR⟩, h0⟩
  simp only [s0_441, s0_442, s0_443, s0_444, s0_445, s0_446, s0_447, s0_448, s0_449, s0_450, s0_451, s0_452, sx_push, tf, List.length_cons, List.length_nil, Option.some.injEq, exists_eq_left', Nat.reduceAdd, Nat.reduceLeDiff, true_and, and_true, true_or, or_true, Int.zero_add, Nat.zero_le, eq_self, ne_eq, not_true_eq_false, not_false_eq_true, false_implies, true_implies, implies_true, b2i_0, b2i_1, b2i_01, up_sc, sc_at, sc_sc, ite_true, ite_false, if_true, if_false, Nat.reduceEqDiff, reduceIte, t00, h0]
  repeat' (first | intro _ | refine And.intro ?_ ?_)
  all_goals first | omega | skip
  refine Rn_imp hR ?_
  rintro r2 T2 σ2 ⟨rfl, rfl, hr2, h02⟩
  simp only [s0_455, sx_push, tf, List.length_cons, List.length_nil, Option.some.injEq, exists_eq_left', Nat.reduceAdd, Nat.reduceLeDiff, true_and, and_true, true_or, or_true, Int.zero_add, Nat.zero_le, eq_self, ne_eq, not_true_eq_false, not_false_eq_true, false_implies, true_implies, implies_true, b2i_0, b2i_1, b2i_01, up_sc, sc_at, sc_sc, ite_true, ite_false, if_true, if_false, Nat.reduceEqDiff, reduceIte]
  repeat' (first | intro _ | refine And.intro ?_ ?_)
  all_goals first | omega | contradiction | exact hK σ2 hr2 h02
theorem lw8 (hc : c < 100000) (h : Rel c σ) (i0 : 0 ≤ i) (i1 : i + 6 ≤ n) (hn : n ≤ 3072) (hs : ∀ j, inI (σ 0 j)) (hK : ∀ σ2, Rel (c + 1) σ2 → σ2 0 = σ 0 → Rn 0 1657 [some (vR 0), some (vR 1), some (vR 149), some (vI i)] [] (T0 n) σ2 K) : Rn 0 460 [some (vR 0), some (vR 1), some (vR 149), some (vI i)] [] (T0 n) σ K := by
  simp only [s0_460, s0_461, s0_462, s0_463, s0_464, s0_465, s0_466, s0_467, s0_468, s0_469, s0_470, s0_471, s0_472, s0_473, s0_474, s0_475, s0_476, sx_push, tf, List.length_cons, List.length_nil, Option.some.injEq, exists_eq_left', Nat.reduceAdd, Nat.reduceLeDiff, true_and, and_true, true_or, or_true, Int.zero_add, Nat.zero_le, eq_self, ne_eq, not_true_eq_false, not_false_eq_true, false_implies, true_implies, implies_true, b2i_0, b2i_1, b2i_01, up_sc, sc_at, sc_sc, ite_true, ite_false, if_true, if_false, Nat.reduceEqDiff, reduceIte, t00]
  repeat' (first | intro _ | refine And.intro ?_ ?_)
  all_goals first | omega | skip
  refine Rn_imp (Rn_k0 (cl8  σ h) t00.1) ?_
  rintro r T' σ1 ⟨⟨rfl, v, rfl, hR⟩, h0⟩
  simp only [s0_479, s0_480, s0_481, s0_482, s0_483, s0_484, s0_485, s0_486, s0_487, s0_488, s0_489, s0_490, s0_491, s0_492, s0_493, s0_494, s0_495, sx_push, tf, List.length_cons, List.length_nil, Option.some.injEq, exists_eq_left', Nat.reduceAdd, Nat.reduceLeDiff, true_and, and_true, true_or, or_true, Int.zero_add, Nat.zero_le, eq_self, ne_eq, not_true_eq_false, not_false_eq_true, false_implies, true_implies, implies_true, b2i_0, b2i_1, b2i_01, up_sc, sc_at, sc_sc, ite_true, ite_false, if_true, if_false, Nat.reduceEqDiff, reduceIte, t00, h0]
  repeat' (first | intro _ | refine And.intro ?_ ?_)
  all_goals first | omega | skip
  refine Rn_imp hR ?_
  rintro r2 T2 σ2 ⟨rfl, rfl, hr2, h02⟩
  simp only [s0_498, sx_push, tf, List.length_cons, List.length_nil, Option.some.injEq, exists_eq_left', Nat.reduceAdd, Nat.reduceLeDiff, true_and, and_true, true_or, or_true, Int.zero_add, Nat.zero_le, eq_self, ne_eq, not_true_eq_false, not_false_eq_true, false_implies, true_implies, implies_true, b2i_0, b2i_1, b2i_01, up_sc, sc_at, sc_sc, ite_true, ite_false, if_true, if_false, Nat.reduceEqDiff, reduceIte]
  repeat' (first | intro _ | refine And.intro ?_ ?_)
  all_goals first | omega | contradiction | exact hK σ2 hr2 h02
theorem lw9 (hc : c < 100000) (h : Rel c σ) (i0 : 0 ≤ i) (i1 : i + 6 ≤ n) (hn : n ≤ 3072) (hs : ∀ j, inI (σ 0 j)) (hK : ∀ σ2, Rel (c + 1) σ2 → σ2 0 = σ 0 → Rn 0 1657 [some (vR 0), some (vR 1), some (vR 149), some (vI i)] [] (T0 n) σ2 K) : Rn 0 503 [some (vR 0), some (vR 1), some (vR 149), some (vI i)] [] (T0 n) σ K := by
  simp only [s0_503, s0_504, s0_505, s0_506, s0_507, s0_508, s0_509, s0_510, s0_511, s0_512, s0_513, s0_514, sx_push, tf, List.length_cons, List.length_nil, Option.some.injEq, exists_eq_left', Nat.reduceAdd, Nat.reduceLeDiff, true_and, and_true, true_or, or_true, Int.zero_add, Nat.zero_le, eq_self, ne_eq, not_true_eq_false, not_false_eq_true, false_implies, true_implies, implies_true, b2i_0, b2i_1, b2i_01, up_sc, sc_at, sc_sc, ite_true, ite_false, if_true, if_false, Nat.reduceEqDiff, reduceIte, t00]
  repeat' (first | intro _ | refine And.intro ?_ ?_)
  all_goals first | omega | skip
  refine Rn_imp (Rn_k0 (cl9 (hs _) σ h) t00.1) ?_
  rintro r T' σ1 ⟨⟨rfl, v, rfl, hR⟩, h0⟩
  simp only [s0_517, s0_518, s0_519, s0_520, s0_521, s0_522, s0_523, s0_524, s0_525, s0_526, s0_527, s0_528, sx_push, tf, List.length_cons, List.length_nil, Option.some.injEq, exists_eq_left', Nat.reduceAdd, Nat.reduceLeDiff, true_and, and_true, true_or, or_true, Int.zero_add, Nat.zero_le, eq_self, ne_eq, not_true_eq_false, not_false_eq_true, false_implies, true_implies, implies_true, b2i_0, b2i_1, b2i_01, up_sc, sc_at, sc_sc, ite_true, ite_false, if_true, if_false, Nat.reduceEqDiff, reduceIte, t00, h0]
  repeat' (first | intro _ | refine And.intro ?_ ?_)
  all_goals first | omega | skip
  refine Rn_imp hR ?_
  rintro r2 T2 σ2 ⟨rfl, rfl, hr2, h02⟩
  simp only [s0_531, sx_push, tf, List.length_cons, List.length_nil, Option.some.injEq, exists_eq_left', Nat.reduceAdd, Nat.reduceLeDiff, true_and, and_true, true_or, or_true, Int.zero_add, Nat.zero_le, eq_self, ne_eq, not_true_eq_false, not_false_eq_true, false_implies, true_implies, implies_true, b2i_0, b2i_1, b2i_01, up_sc, sc_at, sc_sc, ite_true, ite_false, if_true, if_false, Nat.reduceEqDiff, reduceIte]
  repeat' (first | intro _ | refine And.intro ?_ ?_)
  all_goals first | omega | contradiction | exact hK σ2 hr2 h02
theorem lw10 (hc : c < 100000) (h : Rel c σ) (i0 : 0 ≤ i) (i1 : i + 6 ≤ n) (hn : n ≤ 3072) (hs : ∀ j, inI (σ 0 j)) (hK : ∀ σ2, Rel (c + 1) σ2 → σ2 0 = σ 0 → Rn 0 1657 [some (vR 0), some (vR 1), some (vR 149), some (vI i)] [] (T0 n) σ2 K) : Rn 0 536 [some (vR 0), some (vR 1), some (vR 149), some (vI i)] [] (T0 n) σ K := by
  simp only [s0_536, s0_537, s0_538, s0_539, s0_540, s0_541, s0_542, s0_543, s0_544, s0_545, s0_546, s0_547, sx_push, tf, List.length_cons, List.length_nil, Option.some.injEq, exists_eq_left', Nat.reduceAdd, Nat.reduceLeDiff, true_and, and_true, true_or, or_true, Int.zero_add, Nat.zero_le, eq_self, ne_eq, not_true_eq_false, not_false_eq_true, false_implies, true_implies, implies_true, b2i_0, b2i_1, b2i_01, up_sc, sc_at, sc_sc, ite_true, ite_false, if_true, if_false, Nat.reduceEqDiff, reduceIte, t00]
  repeat' (first | intro _ | refine And.intro ?_ ?_)
  all_goals first | omega | skip
  refine Rn_imp (Rn_k0 (cl10  σ h) t00.1) ?_
  rintro r T' σ1 ⟨⟨rfl, v, rfl, hR⟩, h0⟩
  simp only [s0_550, s0_551, s0_552, s0_553, s0_554, s0_555, s0_556, s0_557, s0_558, s0_559, s0_560, s0_561, sx_push, tf, List.length_cons, List.length_nil, Option.some.injEq, exists_eq_left', Nat.reduceAdd, Nat.reduceLeDiff, true_and, and_true, true_or, or_true, Int.zero_add, Nat.zero_le, eq_self, ne_eq, not_true_eq_false, not_false_eq_true, false_implies, true_implies, implies_true, b2i_0, b2i_1, b2i_01, up_sc, sc_at, sc_sc, ite_true, ite_false, if_true, if_false, Nat.reduceEqDiff, reduceIte, t00, h0]
  repeat' (first | intro _ | refine And.intro ?_ ?_)
  all_goals first | omega | skip
  refine Rn_imp hR ?_
  rintro r2 T2 σ2 ⟨rfl, rfl, hr2, h02⟩
  simp only [s0_564, sx_push, tf, List.length_cons, List.length_nil, Option.some.injEq, exists_eq_left', Nat.reduceAdd, Nat.reduceLeDiff, true_and, and_true, true_or, or_true, Int.zero_add, Nat.zero_le, eq_self, ne_eq, not_true_eq_false, not_false_eq_true, false_implies, true_implies, implies_true, b2i_0, b2i_1, b2i_01, up_sc, sc_at, sc_sc, ite_true, ite_false, if_true, if_false, Nat.reduceEqDiff, reduceIte]
  repeat' (first | intro _ | refine And.intro ?_ ?_)
  all_goals first | omega | contradiction | exact hK σ2 hr2 h02
theorem lw11 (hc : c < 100000) (h : Rel c σ) (i0 : 0 ≤ i) (i1 : i + 6 ≤ n) (hn : n ≤ 3072) (hs : ∀ j, inI (σ 0 j)) (hK : ∀ σ2, Rel (c + 1) σ2 → σ2 0 = σ 0 → Rn 0 1657 [some (vR 0), some (vR 1), some (vR 149), some (vI i)] [] (T0 n) σ2 K) : Rn 0 569 [some (vR 0), some (vR 1), some (vR 149), some (vI i)] [] (T0 n) σ K := by
  simp only [s0_569, s0_570, s0_571, s0_572, s0_573, s0_574, s0_575, s0_576, s0_577, s0_578, s0_579, s0_580, sx_push, tf, List.length_cons, List.length_nil, Option.some.injEq, exists_eq_left', Nat.reduceAdd, Nat.reduceLeDiff, true_and, and_true, true_or, or_true, Int.zero_add, Nat.zero_le, eq_self, ne_eq, not_true_eq_false, not_false_eq_true, false_implies, true_implies, implies_true, b2i_0, b2i_1, b2i_01, up_sc, sc_at, sc_sc, ite_true, ite_false, if_true, if_false, Nat.reduceEqDiff, reduceIte, t00]
  repeat' (first | intro _ | refine And.intro ?_ ?_)
  all_goals first | omega | skip
  refine Rn_imp (Rn_k0 (cl11 (hs _) σ h) t00.1) ?_
  rintro r T' σ1 ⟨⟨rfl, v, rfl, hR⟩, h0⟩
  simp only [s0_583, s0_584, s0_585, s0_586, s0_587, s0_588, s0_589, s0_590, s0_591, s0_592, s0_593, s0_594, sx_push, tf, List.length_cons, List.length_nil, Option.some.injEq, exists_eq_left', Nat.reduceAdd, Nat.reduceLeDiff, true_and, and_true, true_or, or_true, Int.zero_add, Nat.zero_le, eq_self, ne_eq, not_true_eq_false, not_false_eq_true, false_implies, true_implies, implies_true, b2i_0, b2i_1, b2i_01, up_sc, sc_at, sc_sc, ite_true, ite_false, if_true, if_false, Nat.reduceEqDiff, reduceIte, t00, h0]
  repeat' (first | intro _ | refine And.intro ?_ ?_)
  all_goals first | omega | skip
  refine Rn_imp hR ?_
  rintro r2 T2 σ2 ⟨rfl, rfl, hr2, h02⟩
  simp only [s0_597, sx_push, tf, List.length_cons, List.length_nil, Option.some.injEq, exists_eq_left', Nat.reduceAdd, Nat.reduceLeDiff, true_and, and_true, true_or, or_true, Int.zero_add, Nat.zero_le, eq_self, ne_eq, not_true_eq_false, not_false_eq_true, false_implies, true_implies, implies_true, b2i_0, b2i_1, b2i_01, up_sc, sc_at, sc_sc, ite_true, ite_false, if_true, if_false, Nat.reduceEqDiff, reduceIte]
  repeat' (first | intro _ | refine And.intro ?_ ?_)
  all_goals first | omega | contradiction | exact hK σ2 hr2 h02
theorem lw12 (hc : c < 100000) (h : Rel c σ) (i0 : 0 ≤ i) (i1 : i + 6 ≤ n) (hn : n ≤ 3072) (hs : ∀ j, inI (σ 0 j)) (hK : ∀ σ2, Rel (c + 1) σ2 → σ2 0 = σ 0 → Rn 0 1657 [some (vR 0), some (vR 1), some (vR 149), some (vI i)] [] (T0 n) σ2 K) : Rn 0 602 [some (vR 0), some (vR 1), some (vR 149), some (vI i)] [] (T0 n) σ K := by
  simp only [s0_602, s0_603, s0_604, s0_605, s0_606, s0_607, s0_608, s0_609, s0_610, s0_611, s0_612, s0_613, sx_push, tf, List.length_cons, List.length_nil, Option.some.injEq, exists_eq_left', Nat.reduceAdd, Nat.reduceLeDiff, true_and, and_true, true_or, or_true, Int.zero_add, Nat.zero_le, eq_self, ne_eq, not_true_eq_false, not_false_eq_true, false_implies, true_implies, implies_true, b2i_0, b2i_1, b2i_01, up_sc, sc_at, sc_sc, ite_true, ite_false, if_true, if_false, Nat.reduceEqDiff, reduceIte, t00]
  repeat' (first | intro _ | refine And.intro ?_ ?_)
  all_goals first | omega | skip
  refine Rn_imp (Rn_k0 (cl12  σ h) t00.1) ?_
  rintro r T' σ1 ⟨⟨rfl, v, rfl, hR⟩, h0⟩
  simp only [s0_616, s0_617, s0_618, s0_619, s0_620, s0_621, s0_622, s0_623, s0_624, s0_625, s0_626, s0_627, sx_push, tf, List.length_cons, List.length_nil, Option.some.injEq, exists_eq_left', Nat.reduceAdd, Nat.reduceLeDiff, true_and, and_true, true_or, or_true, Int.zero_add, Nat.zero_le, eq_self, ne_eq, not_true_eq_false, not_false_eq_true, false_implies, true_implies, implies_true, b2i_0, b2i_1, b2i_01, up_sc, sc_at, sc_sc, ite_true, ite_false, if_true, if_false, Nat.reduceEqDiff, reduceIte, t00, h0]
  repeat' (first | intro _ | refine And.intro ?_ ?_)
  all_goals first | omega | skip
  refine Rn_imp hR ?_
  rintro r2 T2 σ2 ⟨rfl, rfl, hr2, h02⟩
  simp only [s0_630, sx_push, tf, List.length_cons, List.length_nil, Option.some.injEq, exists_eq_left', Nat.reduceAdd, Nat.reduceLeDiff, true_and, and_true, true_or, or_true, Int.zero_add, Nat.zero_le, eq_self, ne_eq, not_true_eq_false, not_false_eq_true, false_implies, true_implies, implies_true, b2i_0, b2i_1, b2i_01, up_sc, sc_at, sc_sc, ite_true, ite_false, if_true, if_false, Nat.reduceEqDiff, reduceIte]
  repeat' (first | intro _ | refine And.intro ?_ ?_)
  all_goals first | omega | contradiction | exact hK σ2 hr2 h02
theorem lw13 (hc : c < 100000) (h : Rel c σ) (i0 : 0 ≤ i) (i1 : i + 6 ≤ n) (hn : n ≤ 3072) (hs : ∀ j, inI (σ 0 j)) (hK : ∀ σ2, Rel (c + 1) σ2 → σ2 0 = σ 0 → Rn 0 1657 [some (vR 0), some (vR 1), some (vR 149), some (vI i)] [] (T0 n) σ2 K) : Rn 0 635 [some (vR 0), some (vR 1), some (vR 149), some (vI i)] [] (T0 n) σ K := by
  simp only [s0_635, s0_636, s0_637, s0_638, s0_639, s0_640, s0_641, s0_642, s0_643, s0_644, s0_645, s0_646, sx_push, tf, List.length_cons, List.length_nil, Option.some.injEq, exists_eq_left', Nat.reduceAdd, Nat.reduceLeDiff, true_and, and_true, true_or, or_true, Int.zero_add, Nat.zero_le, eq_self, ne_eq, not_true_eq_false, not_false_eq_true, false_implies, true_implies, implies_true, b2i_0, b2i_1, b2i_01, up_sc, sc_at, sc_sc, ite_true, ite_false, if_true, if_false, Nat.reduceEqDiff, reduceIte, t00]
  repeat' (first | intro _ | refine And.intro ?_ ?_)
  all_goals first | omega | skip
  refine Rn_imp (Rn_k0 (cl13  σ h) t00.1) ?_
  rintro r T' σ1 ⟨⟨rfl, v, rfl, hR⟩, h0⟩
  simp only [s0_649, s0_650, s0_651, s0_652, s0_653, s0_654, s0_655, s0_656, s0_657, s0_658, s0_659, s0_660, sx_push, tf, List.length_cons, List.length_nil, Option.some.injEq, exists_eq_left', Nat.reduceAdd, Nat.reduceLeDiff, true_and, and_true, true_or, or_true, Int.zero_add, Nat.zero_le, eq_self, ne_eq, not_true_eq_false, not_false_eq_true, false_implies, true_implies, implies_true, b2i_0, b2i_1, b2i_01, up_sc, sc_at, sc_sc, ite_true, ite_false, if_true, if_false, Nat.reduceEqDiff, reduceIte, t00, h0]
  repeat' (first | intro _ | refine And.intro ?_ ?_)
  all_goals first | omega | skip
  refine Rn_imp hR ?_
  rintro r2 T2 σ2 ⟨rfl, rfl, hr2, h02⟩
  simp only [s0_663, sx_push, tf, List.length_cons, List.length_nil, Option.some.injEq, exists_eq_left', Nat.reduceAdd, Nat.reduceLeDiff, true_and, and_true, true_or, or_true, Int.zero_add, Nat.zero_le, eq_self, ne_eq, not_true_eq_false, not_false_eq_true, false_implies, true_implies, implies_true, b2i_0, b2i_1, b2i_01, up_sc, sc_at, sc_sc, ite_true, ite_false, if_true, if_false, Nat.reduceEqDiff, reduceIte]
  repeat' (first | intro _ | refine And.intro ?_ ?_)
  all_goals first | omega | contradiction | exact hK σ2 hr2 h02
theorem lw14 (hc : c < 100000) (h : Rel c σ) (i0 : 0 ≤ i) (i1 : i + 6 ≤ n) (hn : n ≤ 3072) (hs : ∀ j, inI (σ 0 j)) (hK : ∀ σ2, Rel (c + 1) σ2 → σ2 0 = σ 0 → Rn 0 1657 [some (vR 0), some (vR 1), some (vR 149), some (vI i)] [] (T0 n) σ2 K) : Rn 0 668 [some (vR 0), some (vR 1), some (vR 149), some (vI i)] [] (T0 n) σ K := by
  simp only [s0_668, s0_669, s0_670, s0_671, s0_672, s0_673, s0_674, sx_push, tf, List.length_cons, List.length_nil, Option.some.injEq, exists_eq_left', Nat.reduceAdd, Nat.reduceLeDiff, true_and, and_true, true_or, or_true, Int.zero_add, Nat.zero_le, eq_self, ne_eq, not_true_eq_false, not_false_eq_true, false_implies, true_implies, implies_true, b2i_0, b2i_1, b2i_01, up_sc, sc_at, sc_sc, ite_true, ite_false, if_true, if_false, Nat.reduceEqDiff, reduceIte, t00]
  repeat' (first | intro _ | refine And.intro ?_ ?_)
  all_goals first | omega | skip
  refine Rn_imp (Rn_k0 (cl14  σ h) t00.1) ?_
  rintro r T' σ1 ⟨⟨rfl, v, rfl, hR⟩, h0⟩
  simp only [s0_677, s0_678, s0_679, s0_680, s0_681, s0_682, s0_683, sx_push, tf, List.length_cons, List.length_nil, Option.some.injEq, exists_eq_left', Nat.reduceAdd, Nat.reduceLeDiff, true_and, and_true, true_or, or_true, Int.zero_add, Nat.zero_le, eq_self, ne_eq, not_true_eq_false, not_false_eq_true, false_implies, true_implies, implies_true, b2i_0, b2i_1, b2i_01, up_sc, sc_at, sc_sc, ite_true, ite_false, if_true, if_false, Nat.reduceEqDiff, reduceIte, t00, h0]
  repeat' (first | intro _ | refine And.intro ?_ ?_)
  all_goals first | omega | skip
  refine Rn_imp hR ?_
  rintro r2 T2 σ2 ⟨rfl, rfl, hr2, h02⟩
  simp only [s0_686, sx_push, tf, List.length_cons, List.length_nil, Option.some.injEq, exists_eq_left', Nat.reduceAdd, Nat.reduceLeDiff, true_and, and_true, true_or, or_true, Int.zero_add, Nat.zero_le, eq_self, ne_eq, not_true_eq_false, not_false_eq_true, false_implies, true_implies, implies_true, b2i_0, b2i_1, b2i_01, up_sc, sc_at, sc_sc, ite_true, ite_false, if_true, if_false, Nat.reduceEqDiff, reduceIte]
  repeat' (first | intro _ | refine And.intro ?_ ?_)
  all_goals first | omega | contradiction | exact hK σ2 hr2 h02
theorem lw15 (hc : c < 100000) (h : Rel c σ) (i0 : 0 ≤ i) (i1 : i + 6 ≤ n) (hn : n ≤ 3072) (hs : ∀ j, inI (σ 0 j)) (hK : ∀ σ2, Rel (c + 1) σ2 → σ2 0 = σ 0 → Rn 0 1657 [some (vR 0), some (vR 1), some (vR 149), some (vI i)] [] (T0 n) σ2 K) : Rn 0 691 [some (vR 0), some (vR 1), some (vR 149), some (vI i)] [] (T0 n) σ K := by
  simp only [s0_691, s0_692, s0_693, s0_694, s0_695, s0_696, s0_697, s0_698, s0_699, s0_700, s0_701, s0_702, s0_703, s0_704, s0_705, s0_706, s0_707, sx_push, tf, List.length_cons, List.length_nil, Option.some.injEq, exists_eq_left', Nat.reduceAdd, Nat.reduceLeDiff, true_and, and_true, true_or, or_true, Int.zero_add, Nat.zero_le, eq_self, ne_eq, not_true_eq_false, not_false_eq_true, false_implies, true_implies, implies_true, b2i_0, b2i_1, b2i_01, up_sc, sc_at, sc_sc, ite_true, ite_false, if_true, if_false, Nat.reduceEqDiff, reduceIte, t00]
  repeat' (first | intro _ | refine And.intro ?_ ?_)
  all_goals first | omega | skip
  refine Rn_imp (Rn_k0 (cl15  σ h) t00.1) ?_
  rintro r T' σ1 ⟨⟨rfl, v, rfl, hR⟩, h0⟩
  simp only [s0_710, s0_711, s0_712, s0_713, s0_714, s0_715, s0_716, s0_717, s0_718, s0_719, s0_720, s0_721, s0_722, s0_723, s0_724, s0_725, s0_726, sx_push, tf, List.length_cons, List.length_nil, Option.some.injEq, exists_eq_left', Nat.reduceAdd, Nat.reduceLeDiff, true_and, and_true, true_or, or_true, Int.zero_add, Nat.zero_le, eq_self, ne_eq, not_true_eq_false, not_false_eq_true, false_implies, true_implies, implies_true, b2i_0, b2i_1, b2i_01, up_sc, sc_at, sc_sc, ite_true, ite_false, if_true, if_false, Nat.reduceEqDiff, reduceIte, t00, h0]
  repeat' (first | intro _ | refine And.intro ?_ ?_)
  all_goals first | omega | skip
  refine Rn_imp hR ?_
  rintro r2 T2 σ2 ⟨rfl, rfl, hr2, h02⟩
  simp only [s0_729, sx_push, tf, List.length_cons, List.length_nil, Option.some.injEq, exists_eq_left', Nat.reduceAdd, Nat.reduceLeDiff, true_and, and_true, true_or, or_true, Int.zero_add, Nat.zero_le, eq_self, ne_eq, not_true_eq_false, not_false_eq_true, false_implies, true_implies, implies_true, b2i_0, b2i_1, b2i_01, up_sc, sc_at, sc_sc, ite_true, ite_false, if_true, if_false, Nat.reduceEqDiff, reduceIte]
  repeat' (first | intro _ | refine And.intro ?_ ?_)
  all_goals first | omega | contradiction | exact hK σ2 hr2 h02
theorem lw16 (hc : c < 100000) (h : Rel c σ) (i0 : 0 ≤ i) (i1 : i + 6 ≤ n) (hn : n ≤ 3072) (hs : ∀ j, inI (σ 0 j)) (hK : ∀ σ2, Rel (c + 1) σ2 → σ2 0 = σ 0 → Rn 0 1657 [some (vR 0), some (vR 1), some (vR 149), some (vI i)] [] (T0 n) σ2 K) : Rn 0 734 [some (vR 0), some (vR 1), some (vR 149), some (vI i)] [] (T0 n) σ K := by
  simp only [s0_734, s0_735, s0_736, s0_737, s0_738, s0_739, s0_740, sx_push, tf, List.length_cons, List.length_nil, Option.some.injEq, exists_eq_left', Nat.reduceAdd, Nat.reduceLeDiff, true_and, and_true, true_or, or_true, Int.zero_add, Nat.zero_le, eq_self, ne_eq, not_true_eq_false, not_false_eq_true, false_implies, true_implies, implies_true, b2i_0, b2i_1, b2i_01, up_sc, sc_at, sc_sc, ite_true, ite_false, if_true, if_false, Nat.reduceEqDiff, reduceIte, t00]
  repeat' (first | intro _ | refine And.intro ?_ ?_)
  all_goals first | omega | skip
  refine Rn_imp (Rn_k0 (cl16  σ h) t00.1) ?_
  rintro r T' σ1 ⟨⟨rfl, v, rfl, hR⟩, h0⟩
  simp only [s0_743, s0_744, s0_745, s0_746, s0_747, s0_748, s0_749, sx_push, tf, List.length_cons, List.length_nil, Option.some.injEq, exists_eq_left', Nat.reduceAdd, Nat.reduceLeDiff, true_and, and_true, true_or, or_true, Int.zero_add, Nat.zero_le, eq_self, ne_eq, not_true_eq_false, not_false_eq_true, false_implies, true_implies, implies_true, b2i_0, b2i_1, b2i_01, up_sc, sc_at, sc_sc, ite_true, ite_false, if_true, if_false, Nat.reduceEqDiff, reduceIte, t00, h0]
  repeat' (first | intro _ | refine And.intro ?_ ?_)
  all_goals first | omega | skip
  refine Rn_imp hR ?_
  rintro r2 T2 σ2 ⟨rfl, rfl, hr2, h02⟩
  simp only [s0_752, sx_push, tf, List.length_cons, List.length_nil, Option.some.injEq, exists_eq_left', Nat.reduceAdd, Nat.reduceLeDiff, true_and, and_true, true_or, or_true, Int.zero_add, Nat.zero_le, eq_self, ne_eq, not_true_eq_false, not_false_eq_true, false_implies, true_implies, implies_true, b2i_0, b2i_1, b2i_01, up_sc, sc_at, sc_sc, ite_true, ite_false, if_true, if_false, Nat.reduceEqDiff, reduceIte]
  repeat' (first | intro _ | refine And.intro ?_ ?_)
  all_goals first | omega | contradiction | exact hK σ2 hr2 h02
theorem lw17 (hc : c < 100000) (h : Rel c σ) (i0 : 0 ≤ i) (i1 : i + 6 ≤ n) (hn : n ≤ 3072) (hs : ∀ j, inI (σ 0 j)) (hK : ∀ σ2, Rel (c + 1) σ2 → σ2 0 = σ 0 → Rn 0 1657 [some (vR 0), some (vR 1), some (vR 149), some (vI i)] [] (T0 n) σ2 K) : Rn 0 757 [some (vR 0), some (vR 1), some (vR 149), some (vI i)] [] (T0 n) σ K := by
  simp only [s0_757, s0_758, s0_759, s0_760, s0_761, s0_762, s0_763, s0_764, s0_765, s0_766, s0_767, s0_768, sx_push, tf, List.length_cons, List.length_nil, Option.some.injEq, exists_eq_left', Nat.reduceAdd, Nat.reduceLeDiff, true_and, and_true, true_or, or_true, Int.zero_add, Nat.zero_le, eq_self, ne_eq, not_true_eq_false, not_false_eq_true, false_implies, true_implies, implies_true, b2i_0, b2i_1, b2i_01, up_sc, sc_at, sc_sc, ite_true, ite_false, if_true, if_false, Nat.reduceEqDiff, reduceIte, t00]
  repeat' (first | intro _ | refine And.intro ?_ ?_)
  all_goals first | omega | skip
  refine Rn_imp (Rn_k0 (cl17  σ h) t00.1) ?_
  rintro r T' σ1 ⟨⟨rfl, v, rfl, hR⟩, h0⟩
  simp only [s0_771, s0_772, s0_773, s0_774, s0_775, s0_776, s0_777, s0_778, s0_779, s0_780, s0_781, s0_782, sx_push, tf, List.length_cons, List.length_nil, Option.some.injEq, exists_eq_left', Nat.reduceAdd, Nat.reduceLeDiff, true_and, and_true, true_or, or_true, Int.zero_add, Nat.zero_le, eq_self, ne_eq, not_true_eq_false, not_false_eq_true, false_implies, true_implies, implies_true, b2i_0, b2i_1, b2i_01, up_sc, sc_at, sc_sc, ite_true, ite_false, if_true, if_false, Nat.reduceEqDiff, reduceIte, t00, h0]
  repeat' (first | intro _ | refine And.intro ?_ ?_)
  all_goals first | omega | skip
  refine Rn_imp hR ?_
  rintro r2 T2 σ2 ⟨rfl, rfl, hr2, h02⟩
  simp only [s0_785, sx_push, tf, List.length_cons, List.length_nil, Option.some.injEq, exists_eq_left', Nat.reduceAdd, Nat.reduceLeDiff, true_and, and_true, true_or, or_true, Int.zero_add, Nat.zero_le, eq_self, ne_eq, not_true_eq_false, not_false_eq_true, false_implies, true_implies, implies_true, b2i_0, b2i_1, b2i_01, up_sc, sc_at, sc_sc, ite_true, ite_false, if_true, if_false, Nat.reduceEqDiff, reduceIte]
  repeat' (first | intro _ | refine And.intro ?_ ?_)
  all_goals first | omega | contradiction | exact hK σ2 hr2 h02
theorem lw18 (hc : c < 100000) (h : Rel c σ) (i0 : 0 ≤ i) (i1 : i + 6 ≤ n) (hn : n ≤ 3072) (hs : ∀ j, inI (σ 0 j)) (hK : ∀ σ2, Rel (c + 1) σ2 → σ2 0 = σ 0 → Rn 0 1657 [some (vR 0), some (vR 1), some (vR 149), some (vI i)] [] (T0 n) σ2 K) : Rn 0 790 [some (vR 0), some (vR 1), some (vR 149), some (vI i)] [] (T0 n) σ K := by
  simp only [s0_790, s0_791, s0_792, s0_793, s0_794, s0_795, s0_796, s0_797, s0_798, s0_799, s0_800, s0_801, s0_802, s0_803, s0_804, s0_805, s0_806, s0_807, s0_808, s0_809, s0_810, s0_811, sx_push, tf, List.length_cons, List.length_nil, Option.some.injEq, exists_eq_left', Nat.reduceAdd, Nat.reduceLeDiff, true_and, and_true, true_or, or_true, Int.zero_add, Nat.zero_le, eq_self, ne_eq, not_true_eq_false, not_false_eq_true, false_implies, true_implies, implies_true, b2i_0, b2i_1, b2i_01, up_sc, sc_at, sc_sc, ite_true, ite_false, if_true, if_false, Nat.reduceEqDiff, reduceIte, t00]
  repeat' (first | intro _ | refine And.intro ?_ ?_)
  all_goals first | omega | skip
  refine Rn_imp (Rn_k0 (cl18  σ h) t00.1) ?_
  rintro r T' σ1 ⟨⟨rfl, v, rfl, hR⟩, h0⟩
  simp only [s0_814, s0_815, s0_816, s0_817, s0_818, s0_819, s0_820, s0_821, s0_822, s0_823, s0_824, s0_825, s0_826, s0_827, s0_828, s0_829, s0_830, s0_831, s0_832, s0_833, s0_834, s0_835, sx_push, tf, List.length_cons, List.length_nil, Option.some.injEq, exists_eq_left', Nat.reduceAdd, Nat.reduceLeDiff, true_and, and_true, true_or, or_true, Int.zero_add, Nat.zero_le, eq_self, ne_eq, not_true_eq_false, not_false_eq_true, false_implies, true_implies, implies_true, b2i_0, b2i_1, b2i_01, up_sc, sc_at, sc_sc, ite_true, ite_false, if_true, if_false, Nat.reduceEqDiff, reduceIte, t00, h0]
  repeat' (first | intro _ | refine And.intro ?_ ?_)
  all_goals first | omega | skip
  refine Rn_imp hR ?_
  rintro r2 T2 σ2 ⟨rfl, rfl, hr2, h02⟩
  simp only [s0_838, sx_push, tf, List.length_cons, List.length_nil, Option.some.injEq, exists_eq_left', Nat.reduceAdd, Nat.reduceLeDiff, true_and, and_true, true_or, or_true, Int.zero_add, Nat.zero_le, eq_self, ne_eq, not_true_eq_false, not_false_eq_true, false_implies, true_implies, implies_true, b2i_0, b2i_1, b2i_01, up_sc, sc_at, sc_sc, ite_true, ite_false, if_true, if_false, Nat.reduceEqDiff, reduceIte]
  repeat' (first | intro _ | refine And.intro ?_ ?_)
  all_goals first | omega | contradiction | exact hK σ2 hr2 h02
theorem lw19 (hc : c < 100000) (h : Rel c σ) (i0 : 0 ≤ i) (i1 : i + 6 ≤ n) (hn : n ≤ 3072) (hs : ∀ j, inI (σ 0 j)) (hK : ∀ σ2, Rel (c + 1) σ2 → σ2 0 = σ 0 → Rn 0 1657 [some (vR 0), some (vR 1), some (vR 149), some (vI i)] [] (T0 n) σ2 K) : Rn 0 843 [some (vR 0), some (vR 1), some (vR 149), some (vI i)] [] (T0 n) σ K := by
  simp only [s0_843, s0_844, s0_845, s0_846, s0_847, s0_848, s0_849, s0_850, s0_851, s0_852, s0_853, s0_854, s0_855, s0_856, s0_857, s0_858, s0_859, s0_860, s0_861, s0_862, s0_863, s0_864, sx_push, tf, List.length_cons, List.length_nil, Option.some.injEq, exists_eq_left', Nat.reduceAdd, Nat.reduceLeDiff, true_and, and_true, true_or, or_true, Int.zero_add, Nat.zero_le, eq_self, ne_eq, not_true_eq_false, not_false_eq_true, false_implies, true_implies, implies_true, b2i_0, b2i_1, b2i_01, up_sc, sc_at, sc_sc, ite_true, ite_false, if_true, if_false, Nat.reduceEqDiff, reduceIte, t00]
  repeat' (first | intro _ | refine And.intro ?_ ?_)
  all_goals first | omega | skip
  refine Rn_imp (Rn_k0 (cl19  σ h) t00.1) ?_
  rintro r T' σ1 ⟨⟨rfl, v, rfl, hR⟩, h0⟩
  simp only [s0_867, s0_868, s0_869, s0_870, s0_871, s0_872, s0_873, s0_874, s0_875, s0_876, s0_877, s0_878, s0_879, s0_880, s0_881, s0_882, s0_883, s0_884, s0_885, s0_886, s0_887, s0_888, sx_push, tf, List.length_cons, List.length_nil, Option.some.injEq, exists_eq_left', Nat.reduceAdd, Nat.reduceLeDiff, true_and, and_true, true_or, or_true, Int.zero_add, Nat.zero_le, eq_self, ne_eq, not_true_eq_false, not_false_eq_true, false_implies, true_implies, implies_true, b2i_0, b2i_1, b2i_01, up_sc, sc_at, sc_sc, ite_true, ite_false, if_true, if_false, Nat.reduceEqDiff, reduceIte, t00, h0]
  repeat' (first | intro _ | refine And.intro ?_ ?_)
  all_goals first | omega | skip
  refine Rn_imp hR ?_
  rintro r2 T2 σ2 ⟨rfl, rfl, hr2, h02⟩
  simp only [s0_891, sx_push, tf, List.length_cons, List.length_nil, Option.some.injEq, exists_eq_left', Nat.reduceAdd, Nat.reduceLeDiff, true_and, and_true, true_or, or_true, Int.zero_add, Nat.zero_le, eq_self, ne_eq, not_true_eq_false, not_false_eq_true, false_implies, true_implies, implies_true, b2i_0, b2i_1, b2i_01, up_sc, sc_at, sc_sc, ite_true, ite_false, if_true, if_false, Nat.reduceEqDiff, reduceIte]
  repeat' (first | intro _ | refine And.intro ?_ ?_)
  all_goals first | omega | contradiction | exact hK σ2 hr2 h02
theorem lw20 (hc : c < 100000) (h : Rel c σ) (i0 : 0 ≤ i) (i1 : i + 6 ≤ n) (hn : n ≤ 3072) (hs : ∀ j, inI (σ 0 j)) (hK : ∀ σ2, Rel (c + 1) σ2 → σ2 0 = σ 0 → Rn 0 1657 [some (vR 0), some (vR 1), some (vR 149), some (vI i)] [] (T0 n) σ2 K) : Rn 0 896 [some (vR 0), some (vR 1), some (vR 149), some (vI i)] [] (T0 n) σ K := by
  simp only [s0_896, s0_897, s0_898, s0_899, s0_900, s0_901, s0_902, s0_903, s0_904, s0_905, s0_906, s0_907, s0_908, s0_909, s0_910, s0_911, s0_912, s0_913, s0_914, s0_915, s0_916, s0_917, sx_push, tf, List.length_cons, List.length_nil, Option.some.injEq, exists_eq_left', Nat.reduceAdd, Nat.reduceLeDiff, true_and, and_true, true_or, or_true, Int.zero_add, Nat.zero_le, eq_self, ne_eq, not_true_eq_false, not_false_eq_true, false_implies, true_implies, implies_true, b2i_0, b2i_1, b2i_01, up_sc, sc_at, sc_sc, ite_true, ite_false, if_true, if_false, Nat.reduceEqDiff, reduceIte, t00]
  repeat' (first | intro _ | refine And.intro ?_ ?_)
  all_goals first | omega | skip
  refine Rn_imp (Rn_k0 (cl20  σ h) t00.1) ?_
  rintro r T' σ1 ⟨⟨rfl, v, rfl, hR⟩, h0⟩
  simp only [s0_920, s0_921, s0_922, s0_923, s0_924, s0_925, s0_926, s0_927, s0_928, s0_929, s0_930, s0_931, s0_932, s0_933, s0_934, s0_935, s0_936, s0_937, s0_938, s0_939, s0_940, s0_941, sx_push, tf, List.length_cons, List.length_nil, Option.some.injEq, exists_eq_left', Nat.reduceAdd, Nat.reduceLeDiff, true_and, and_true, true_or, or_true, Int.zero_add, Nat.zero_le, eq_self, ne_eq, not_true_eq_false, not_false_eq_true, false_implies, true_implies, implies_true, b2i_0, b2i_1, b2i_01, up_sc, sc_at, sc_sc, ite_true, ite_false, if_true, if_false, Nat.reduceEqDiff, reduceIte, t00, h0]
  repeat' (first | intro _ | refine And.intro ?_ ?_)
  all_goals first | omega | skip
  refine Rn_imp hR ?_
  rintro r2 T2 σ2 ⟨rfl, rfl, hr2, h02⟩
  simp only [s0_944, sx_push, tf, List.length_cons, List.length_nil, Option.some.injEq, exists_eq_left', Nat.reduceAdd, Nat.reduceLeDiff, true_and, and_true, true_or, or_true, Int.zero_add, Nat.zero_le, eq_self, ne_eq, not_true_eq_false, not_false_eq_true, false_implies, true_implies, implies_true, b2i_0, b2i_1, b2i_01, up_sc, sc_at, sc_sc, ite_true, ite_false, if_true, if_false, Nat.reduceEqDiff, reduceIte]
  repeat' (first | intro _ | refine And.intro ?_ ?_)
  all_goals first | omega | contradiction | exact hK σ2 hr2 h02
theorem lw21 (hc : c < 100000) (h : Rel c σ) (i0 : 0 ≤ i) (i1 : i + 6 ≤ n) (hn : n ≤ 3072) (hs : ∀ j, inI (σ 0 j)) (hK : ∀ σ2, Rel (c + 1) σ2 → σ2 0 = σ 0 → Rn 0 1657 [some (vR 0), some (vR 1), some (vR 149), some (vI i)] [] (T0 n) σ2 K) : Rn 0 949 [some (vR 0), some (vR 1), some (vR 149), some (vI i)] [] (T0 n) σ K := by
  simp only [s0_949, s0_950, s0_951, s0_952, s0_953, s0_954, s0_955, s0_956, s0_957, s0_958, s0_959, s0_960, s0_961, s0_962, s0_963, s0_964, s0_965, s0_966, s0_967, s0_968, s0_969, s0_970, sx_push, tf, List.length_cons, List.length_nil, Option.some.injEq, exists_eq_left', Nat.reduceAdd, Nat.reduceLeDiff, true_and, and_true, true_or, or_true, Int.zero_add, Nat.zero_le, eq_self, ne_eq, not_true_eq_false, not_false_eq_true, false_implies, true_implies, implies_true, b2i_0, b2i_1, b2i_01, up_sc, sc_at, sc_sc, ite_true, ite_false, if_true, if_false, Nat.reduceEqDiff, reduceIte, t00]
  repeat' (first | intro _ | refine And.intro ?_ ?_)
  all_goals first | omega | skip
  refine Rn_imp (Rn_k0 (cl21  σ h) t00.1) ?_
  rintro r T' σ1 ⟨⟨rfl, v, rfl, hR⟩, h0⟩
  simp only [s0_973, s0_974, s0_975, s0_976, s0_977, s0_978, s0_979, s0_980, s0_981, s0_982, s0_983, s0_984, s0_985, s0_986, s0_987, s0_988, s0_989, s0_990, s0_991, s0_992, s0_993, s0_994, sx_push, tf, List.length_cons, List.length_nil, Option.some.injEq, exists_eq_left', Nat.reduceAdd, Nat.reduceLeDiff, true_and, and_true, true_or, or_true, Int.zero_add, Nat.zero_le, eq_self, ne_eq, not_true_eq_false, not_false_eq_true, false_implies, true_implies, implies_true, b2i_0, b2i_1, b2i_01, up_sc, sc_at, sc_sc, ite_true, ite_false, if_true, if_false, Nat.reduceEqDiff, reduceIte, t00, h0]
  repeat' (first | intro _ | refine And.intro ?_ ?_)
  all_goals first | omega | skip
  refine Rn_imp hR ?_
  rintro r2 T2 σ2 ⟨rfl, rfl, hr2, h02⟩
  simp only [s0_997, sx_push, tf, List.length_cons, List.length_nil, Option.some.injEq, exists_eq_left', Nat.reduceAdd, Nat.reduceLeDiff, true_and, and_true, true_or, or_true, Int.zero_add, Nat.zero_le, eq_self, ne_eq, not_true_eq_false, not_false_eq_true, false_implies, true_implies, implies_true, b2i_0, b2i_1, b2i_01, up_sc, sc_at, sc_sc, ite_true, ite_false, if_true, if_false, Nat.reduceEqDiff, reduceIte]
  repeat' (first | intro _ | refine And.intro ?_ ?_)
  all_goals first | omega | contradiction | exact hK σ2 hr2 h02
theorem lw22 (hc : c < 100000) (h : Rel c σ) (i0 : 0 ≤ i) (i1 : i + 6 ≤ n) (hn : n ≤ 3072) (hs : ∀ j, inI (σ 0 j)) (hK : ∀ σ2, Rel (c + 1) σ2 → σ2 0 = σ 0 → Rn 0 1657 [some (vR 0), some (vR 1), some (vR 149), some (vI i)] [] (T0 n) σ2 K) : Rn 0 1002 [some (vR 0), some (vR 1), some (vR 149), some (vI i)] [] (T0 n) σ K := by
  simp only [s0_1002, s0_1003, s0_1004, s0_1005, s0_1006, s0_1007, s0_1008, s0_1009, s0_1010, s0_1011, s0_1012, s0_1013, sx_push, tf, List.length_cons, List.length_nil, Option.some.injEq, exists_eq_left', Nat.reduceAdd, Nat.reduceLeDiff, true_and, and_true, true_or, or_true, Int.zero_add, Nat.zero_le, eq_self, ne_eq, not_true_eq_false, not_false_eq_true, false_implies, true_implies, implies_true, b2i_0, b2i_1, b2i_01, up_sc, sc_at, sc_sc, ite_true, ite_false, if_true, if_false, Nat.reduceEqDiff, reduceIte, t00]
  repeat' (first | intro _ | refine And.intro ?_ ?_)
  all_goals first | omega | skip
  refine Rn_imp (Rn_k0 (cl22  σ h) t00.1) ?_
  rintro r T' σ1 ⟨⟨rfl, v, rfl, hR⟩, h0⟩
  simp only [s0_1016, s0_1017, s0_1018, s0_1019, s0_1020, s0_1021, s0_1022, s0_1023, s0_1024, s0_1025, s0_1026, s0_1027, sx_push, tf, List.length_cons, List.length_nil, Option.some.injEq, exists_eq_left', Nat.reduceAdd, Nat.reduceLeDiff, true_and, and_true, true_or, or_true, Int.zero_add, Nat.zero_le, eq_self, ne_eq, not_true_eq_false, not_false_eq_true, false_implies, true_implies, implies_true, b2i_0, b2i_1, b2i_01, up_sc, sc_at, sc_sc, ite_true, ite_false, if_true, if_false, Nat.reduceEqDiff, reduceIte, t00, h0]
  repeat' (first | intro _ | refine And.intro ?_ ?_)
  all_goals first | omega | skip
  refine Rn_imp hR ?_
  rintro r2 T2 σ2 ⟨rfl, rfl, hr2, h02⟩
  simp only [s0_1030, sx_push, tf, List.length_cons, List.length_nil, Option.some.injEq, exists_eq_left', Nat.reduceAdd, Nat.reduceLeDiff, true_and, and_true, true_or, or_true, Int.zero_add, Nat.zero_le, eq_self, ne_eq, not_true_eq_false, not_false_eq_true, false_implies, true_implies, implies_true, b2i_0, b2i_1, b2i_01, up_sc, sc_at, sc_sc, ite_true, ite_false, if_true, if_false, Nat.reduceEqDiff, reduceIte]
  repeat' (first | intro _ | refine And.intro ?_ ?_)
  all_goals first | omega | contradiction | exact hK σ2 hr2 h02
theorem lw23 (hc : c < 100000) (h : Rel c σ) (i0 : 0 ≤ i) (i1 : i + 6 ≤ n) (hn : n ≤ 3072) (hs : ∀ j, inI (σ 0 j)) (hK : ∀ σ2, Rel (c + 1) σ2 → σ2 0 = σ 0 → Rn 0 1657 [some (vR 0), some (vR 1), some (vR 149), some (vI i)] [] (T0 n) σ2 K) : Rn 0 1035 [some (vR 0), some (vR 1), some (vR 149), some (vI i)] [] (T0 n) σ K := by
  simp only [s0_1035, s0_1036, s0_1037, s0_1038, s0_1039, s0_1040, s0_1041, s0_1042, s0_1043, s0_1044, s0_1045, s0_1046, sx_push, tf, List.length_cons, List.length_nil, Option.some.injEq, exists_eq_left', Nat.reduceAdd, Nat.reduceLeDiff, true_and, and_true, true_or, or_true, Int.zero_add, Nat.zero_le, eq_self, ne_eq, not_true_eq_false, not_false_eq_true, false_implies, true_implies, implies_true, b2i_0, b2i_1, b2i_01, up_sc, sc_at, sc_sc, ite_true, ite_false, if_true, if_false, Nat.reduceEqDiff, reduceIte, t00]
  repeat' (first | intro _ | refine And.intro ?_ ?_)
  all_goals first | omega | skip
  refine Rn_imp (Rn_k0 (cl23  σ h) t00.1) ?_
  rintro r T' σ1 ⟨⟨rfl, v, rfl, hR⟩, h0⟩
  simp only [s0_1049, s0_1050, s0_1051, s0_1052, s0_1053, s0_1054, s0_1055, s0_1056, s0_1057, s0_1058, s0_1059, s0_1060, sx_push, tf, List.length_cons, List.length_nil, Option.some.injEq, exists_eq_left', Nat.reduceAdd, Nat.reduceLeDiff, true_and, and_true, true_or, or_true, Int.zero_add, Nat.zero_le, eq_self, ne_eq, not_true_eq_false, not_false_eq_true, false_implies, true_implies, implies_true, b2i_0, b2i_1, b2i_01, up_sc, sc_at, sc_sc, ite_true, ite_false, if_true, if_false, Nat.reduceEqDiff, reduceIte, t00, h0]
  repeat' (first | intro _ | refine And.intro ?_ ?_)
  all_goals first | omega | skip
  refine Rn_imp hR ?_
  rintro r2 T2 σ2 ⟨rfl, rfl, hr2, h02⟩
  simp only [s0_1063, sx_push, tf, List.length_cons, List.length_nil, Option.some.injEq, exists_eq_left', Nat.reduceAdd, Nat.reduceLeDiff, true_and, and_true, true_or, or_true, Int.zero_add, Nat.zero_le, eq_self, ne_eq, not_true_eq_false, not_false_eq_true, false_implies, true_implies, implies_true, b2i_0, b2i_1, b2i_01, up_sc, sc_at, sc_sc, ite_true, ite_false, if_true, if_false, Nat.reduceEqDiff, reduceIte]
  repeat' (first | intro _ | refine And.intro ?_ ?_)
  all_goals first | omega | contradiction | exact hK σ2 hr2 h02
theorem lw24 (hc : c < 100000) (h : Rel c σ) (i0 : 0 ≤ i) (i1 : i + 6 ≤ n) (hn : n ≤ 3072) (hs : ∀ j, inI (σ 0 j)) (hK : ∀ σ2, Rel (c + 1) σ2 → σ2 0 = σ 0 → Rn 0 1657 [some (vR 0), some (vR 1), some (vR 149), some (vI i)] [] (T0 n) σ2 K) : Rn 0 1068 [some (vR 0), some (vR 1), some (vR 149), some (vI i)] [] (T0 n) σ K := by
  simp only [s0_1068, s0_1069, s0_1070, s0_1071, s0_1072, s0_1073, s0_1074, sx_push, tf, List.length_cons, List.length_nil, Option.some.injEq, exists_eq_left', Nat.reduceAdd, Nat.reduceLeDiff, true_and, and_true, true_or, or_true, Int.zero_add, Nat.zero_le, eq_self, ne_eq, not_true_eq_false, not_false_eq_true, false_implies, true_implies, implies_true, b2i_0, b2i_1, b2i_01, up_sc, sc_at, sc_sc, ite_true, ite_false, if_true, if_false, Nat.reduceEqDiff, reduceIte, t00]
  repeat' (first | intro _ | refine And.intro ?_ ?_)
  all_goals first | omega | skip
  refine Rn_imp (Rn_k0 (cl24  σ h) t00.1) ?_
  rintro r T' σ1 ⟨⟨rfl, v, rfl, hR⟩, h0⟩
  simp only [s0_1077, s0_1078, s0_1079, s0_1080, s0_1081, s0_1082, s0_1083, sx_push, tf, List.length_cons, List.length_nil, Option.some.injEq, exists_eq_left', Nat.reduceAdd, Nat.reduceLeDiff, true_and, and_true, true_or, or_true, Int.zero_add, Nat.zero_le, eq_self, ne_eq, not_true_eq_false, not_false_eq_true, false_implies, true_implies, implies_true, b2i_0, b2i_1, b2i_01, up_sc, sc_at, sc_sc, ite_true, ite_false, if_true, if_false, Nat.reduceEqDiff, reduceIte, t00, h0]
  repeat' (first | intro _ | refine And.intro ?_ ?_)
  all_goals first | omega | skip
  refine Rn_imp hR ?_
  rintro r2 T2 σ2 ⟨rfl, rfl, hr2, h02⟩
  simp only [s0_1086, sx_push, tf, List.length_cons, List.length_nil, Option.some.injEq, exists_eq_left', Nat.reduceAdd, Nat.reduceLeDiff, true_and, and_true, true_or, or_true, Int.zero_add, Nat.zero_le, eq_self, ne_eq, not_true_eq_false, not_false_eq_true, false_implies, true_implies, implies_true, b2i_0, b2i_1, b2i_01, up_sc, sc_at, sc_sc, ite_true, ite_false, if_true, if_false, Nat.reduceEqDiff, reduceIte]
  repeat' (first | intro _ | refine And.intro ?_ ?_)
  all_goals first | omega | contradiction | exact hK σ2 hr2 h02
theorem lw25 (hc : c < 100000) (h : Rel c σ) (i0 : 0 ≤ i) (i1 : i + 6 ≤ n) (hn : n ≤ 3072) (hs : ∀ j, inI (σ 0 j)) (hK : ∀ σ2, Rel (c + 1) σ2 → σ2 0 = σ 0 → Rn 0 1657 [some (vR 0), some (vR 1), some (vR 149), some (vI i)] [] (T0 n) σ2 K) : Rn 0 1091 [some (vR 0), some (vR 1), some (vR 149), some (vI i)] [] (T0 n) σ K := by
  simp only [s0_1091, s0_1092, s0_1093, s0_1094, s0_1095, s0_1096, s0_1097, sx_push, tf, List.length_cons, List.length_nil, Option.some.injEq, exists_eq_left', Nat.reduceAdd, Nat.reduceLeDiff, true_and, and_true, true_or, or_true, Int.zero_add, Nat.zero_le, eq_self, ne_eq, not_true_eq_false, not_false_eq_true, false_implies, true_implies, implies_true, b2i_0, b2i_1, b2i_01, up_sc, sc_at, sc_sc, ite_true, ite_false, if_true, if_false, Nat.reduceEqDiff, reduceIte, t00]
  repeat' (first | intro _ | refine And.intro ?_ ?_)
  all_goals first | omega | skip
  refine Rn_imp (Rn_k0 (cl25  σ h) t00.1) ?_
  rintro r T' σ1 ⟨⟨rfl, v, rfl, hR⟩, h0⟩
  simp only [s0_1100, s0_1101, s0_1102, s0_1103, s0_1104, s0_1105, s0_1106, sx_push, tf, List.length_cons, List.length_nil, Option.some.injEq, exists_eq_left', Nat.reduceAdd, Nat.reduceLeDiff, true_and, and_true, true_or, or_true, Int.zero_add, Nat.zero_le, eq_self, ne_eq, not_true_eq_false, not_false_eq_true, false_implies, true_implies, implies_true, b2i_0, b2i_1, b2i_01, up_sc, sc_at, sc_sc, ite_true, ite_false, if_true, if_false, Nat.reduceEqDiff, reduceIte, t00, h0]
  repeat' (first | intro _ | refine And.intro ?_ ?_)
  all_goals first | omega | skip
  refine Rn_imp hR ?_
  rintro r2 T2 σ2 ⟨rfl, rfl, hr2, h02⟩
  simp only [s0_1109, sx_push, tf, List.length_cons, List.length_nil, Option.some.injEq, exists_eq_left', Nat.reduceAdd, Nat.reduceLeDiff, true_and, and_true, true_or, or_true, Int.zero_add, Nat.zero_le, eq_self, ne_eq, not_true_eq_false, not_false_eq_true, false_implies, true_implies, implies_true, b2i_0, b2i_1, b2i_01, up_sc, sc_at, sc_sc, ite_true, ite_false, if_true, if_false, Nat.reduceEqDiff, reduceIte]
  repeat' (first | intro _ | refine And.intro ?_ ?_)
  all_goals first | omega | contradiction | exact hK σ2 hr2 h02
theorem lw26 (hc : c < 100000) (h : Rel c σ) (i0 : 0 ≤ i) (i1 : i + 6 ≤ n) (hn : n ≤ 3072) (hs : ∀ j, inI (σ 0 j)) (hK : ∀ σ2, Rel (c + 1) σ2 → σ2 0 = σ 0 → Rn 0 1657 [some (vR 0), some (vR 1), some (vR 149), some (vI i)] [] (T0 n) σ2 K) : Rn 0 1114 [some (vR 0), some (vR 1), some (vR 149), some (vI i)] [] (T0 n) σ K := by
  simp only [s0_1114, s0_1115, s0_1116, s0_1117, s0_1118, s0_1119, s0_1120, s0_1121, s0_1122, s0_1123, s0_1124, s0_1125, sx_push, tf, List.length_cons, List.length_nil, Option.some.injEq, exists_eq_left', Nat.reduceAdd, Nat.reduceLeDiff, true_and, and_true, true_or, or_true, Int.zero_add, Nat.zero_le, eq_self, ne_eq, not_true_eq_false, not_false_eq_true, false_implies, true_implies, implies_true, b2i_0, b2i_1, b2i_01, up_sc, sc_at, sc_sc, ite_true, ite_false, if_true, if_false, Nat.reduceEqDiff, reduceIte, t00]
  repeat' (first | intro _ | refine And.intro ?_ ?_)
  all_goals first | omega | skip
  refine Rn_imp (Rn_k0 (cl26  σ h) t00.1) ?_
  rintro r T' σ1 ⟨⟨rfl, v, rfl, hR⟩, h0⟩
  simp only [s0_1128, s0_1129, s0_1130, s0_1131, s0_1132, s0_1133, s0_1134, s0_1135, s0_1136, s0_1137, s0_1138, s0_1139, sx_push, tf, List.length_cons, List.length_nil, Option.some.injEq, exists_eq_left', Nat.reduceAdd, Nat.reduceLeDiff, true_and, and_true, true_or, or_true, Int.zero_add, Nat.zero_le, eq_self, ne_eq, not_true_eq_false, not_false_eq_true, false_implies, true_implies, implies_true, b2i_0, b2i_1, b2i_01, up_sc, sc_at, sc_sc, ite_true, ite_false, if_true, if_false, Nat.reduceEqDiff, reduceIte, t00, h0]
  repeat' (first | intro _ | refine And.intro ?_ ?_)
  all_goals first | omega | skip
  refine Rn_imp hR ?_
  rintro r2 T2 σ2 ⟨rfl, rfl, hr2, h02⟩
  simp only [s0_1142, sx_push, tf, List.length_cons, List.length_nil, Option.some.injEq, exists_eq_left', Nat.reduceAdd, Nat.reduceLeDiff, true_and, and_true, true_or, or_true, Int.zero_add, Nat.zero_le, eq_self, ne_eq, not_true_eq_false, not_false_eq_true, false_implies, true_implies, implies_true, b2i_0, b2i_1, b2i_01, up_sc, sc_at, sc_sc, ite_true, ite_false, if_true, if_false, Nat.reduceEqDiff, reduceIte]
  repeat' (first | intro _ | refine And.intro ?_ ?_)
  all_goals first | omega | contradiction | exact hK σ2 hr2 h02
theorem lw27 (hc : c < 100000) (h : Rel c σ) (i0 : 0 ≤ i) (i1 : i + 6 ≤ n) (hn : n ≤ 3072) (hs : ∀ j, inI (σ 0 j)) (hK : ∀ σ2, Rel (c + 1) σ2 → σ2 0 = σ 0 → Rn 0 1657 [some (vR 0), some (vR 1), some (vR 149), some (vI i)] [] (T0 n) σ2 K) : Rn 0 1147 [some (vR 0), some (vR 1), some (vR 149), some (vI i)] [] (T0 n) σ K := by
  simp only [s0_1147, s0_1148, s0_1149, s0_1150, s0_1151, s0_1152, s0_1153, s0_1154, s0_1155, s0_1156, s0_1157, s0_1158, sx_push, tf, List.length_cons, List.length_nil, Option.some.injEq, exists_eq_left', Nat.reduceAdd, Nat.reduceLeDiff, true_and, and_true, true_or, or_true, Int.zero_add, Nat.zero_le, eq_self, ne_eq, not_true_eq_false, not_false_eq_true, false_implies, true_implies, implies_true, b2i_0, b2i_1, b2i_01, up_sc, sc_at, sc_sc, ite_true, ite_false, if_true, if_false, Nat.reduceEqDiff, reduceIte, t00]
  repeat' (first | intro _ | refine And.intro ?_ ?_)
  all_goals first | omega | skip
  refine Rn_imp (Rn_k0 (cl27  σ h) t00.1) ?_
  rintro r T' σ1 ⟨⟨rfl, v, rfl, hR⟩, h0⟩
  simp only [s0_1161, s0_1162, s0_1163, s0_1164, s0_1165, s0_1166, s0_1167, s0_1168, s0_1169, s0_1170, s0_1171, s0_1172, sx_push, tf, List.length_cons, List.length_nil, Option.some.injEq, exists_eq_left', Nat.reduceAdd, Nat.reduceLeDiff, true_and, and_true, true_or, or_true, Int.zero_add, Nat.zero_le, eq_self, ne_eq, not_true_eq_false, not_false_eq_true, false_implies, true_implies, implies_true, b2i_0, b2i_1, b2i_01, up_sc, sc_at, sc_sc, ite_true, ite_false, if_true, if_false, Nat.reduceEqDiff, reduceIte, t00, h0]
  repeat' (first | intro _ | refine And.intro ?_ ?_)
  all_goals first | omega | skip
  refine Rn_imp hR ?_
  rintro r2 T2 σ2 ⟨rfl, rfl, hr2, h02⟩
  simp only [s0_1175, sx_push, tf, List.length_cons, List.length_nil, Option.some.injEq, exists_eq_left', Nat.reduceAdd, Nat.reduceLeDiff, true_and, and_true, true_or, or_true, Int.zero_add, Nat.zero_le, eq_self, ne_eq, not_true_eq_false, not_false_eq_true, false_implies, true_implies, implies_true, b2i_0, b2i_1, b2i_01, up_sc, sc_at, sc_sc, ite_true, ite_false, if_true, if_false, Nat.reduceEqDiff, reduceIte]
  repeat' (first | intro _ | refine And.intro ?_ ?_)
  all_goals first | omega | contradiction | exact hK σ2 hr2 h02
theorem lw28 (hc : c < 100000) (h : Rel c σ) (i0 : 0 ≤ i) (i1 : i + 6 ≤ n) (hn : n ≤ 3072) (hs : ∀ j, inI (σ 0 j)) (hK : ∀ σ2, Rel (c + 1) σ2 → σ2 0 = σ 0 → Rn 0 1657 [some (vR 0), some (vR 1), some (vR 149), some (vI i)] [] (T0 n) σ2 K) : Rn 0 1180 [some (vR 0), some (vR 1), some (vR 149), some (vI i)] [] (T0 n) σ K := by
  simp only [s0_1180, s0_1181, s0_1182, s0_1183, s0_1184, s0_1185, s0_1186, sx_push, tf, List.length_cons, List.length_nil, Option.some.injEq, exists_eq_left', Nat.reduceAdd, Nat.reduceLeDiff, true_and, and_true, true_or, or_true, Int.zero_add, Nat.zero_le, eq_self, ne_eq, not_true_eq_false, not_false_eq_true, false_implies, true_implies, implies_true, b2i_0, b2i_1, b2i_01, up_sc, sc_at, sc_sc, ite_true, ite_false, if_true, if_false, Nat.reduceEqDiff, reduceIte, t00]
  repeat' (first | intro _ | refine And.intro ?_ ?_)
  all_goals first | omega | skip
  refine Rn_imp (Rn_k0 (cl28  σ h) t00.1) ?_
  rintro r T' σ1 ⟨⟨rfl, v, rfl, hR⟩, h0⟩
  simp only [s0_1189, s0_1190, s0_1191, s0_1192, s0_1193, s0_1194, s0_1195, sx_push, tf, List.length_cons, List.length_nil, Option.some.injEq, exists_eq_left', Nat.reduceAdd, Nat.reduceLeDiff, true_and, and_true, true_or, or_true, Int.zero_add, Nat.zero_le, eq_self, ne_eq, not_true_eq_false, not_false_eq_true, false_implies, true_implies, implies_true, b2i_0, b2i_1, b2i_01, up_sc, sc_at, sc_sc, ite_true, ite_false, if_true, if_false, Nat.reduceEqDiff, reduceIte, t00, h0]
  repeat' (first | intro _ | refine And.intro ?_ ?_)
  all_goals first | omega | skip
  refine Rn_imp hR ?_
  rintro r2 T2 σ2 ⟨rfl, rfl, hr2, h02⟩
  simp only [s0_1198, sx_push, tf, List.length_cons, List.length_nil, Option.some.injEq, exists_eq_left', Nat.reduceAdd, Nat.reduceLeDiff, true_and, and_true, true_or, or_true, Int.zero_add, Nat.zero_le, eq_self, ne_eq, not_true_eq_false, not_false_eq_true, false_implies, true_implies, implies_true, b2i_0, b2i_1, b2i_01, up_sc, sc_at, sc_sc, ite_true, ite_false, if_true, if_false, Nat.reduceEqDiff, reduceIte]
  repeat' (first | intro _ | refine And.intro ?_ ?_)
  all_goals first | omega | contradiction | exact hK σ2 hr2 h02
theorem lw29 (hc : c < 100000) (h : Rel c σ) (i0 : 0 ≤ i) (i1 : i + 6 ≤ n) (hn : n ≤ 3072) (hs : ∀ j, inI (σ 0 j)) (hK : ∀ σ2, Rel (c + 1) σ2 → σ2 0 = σ 0 → Rn 0 1657 [some (vR 0), some (vR 1), some (vR 149), some (vI i)] [] (T0 n) σ2 K) : Rn 0 1203 [some (vR 0), some (vR 1), some (vR 149), some (vI i)] [] (T0 n) σ K := by
  simp only [s0_1203, s0_1204, s0_1205, s0_1206, s0_1207, s0_1208, s0_1209, s0_1210, s0_1211, s0_1212, s0_1213, s0_1214, s0_1215, s0_1216, s0_1217, s0_1218, s0_1219, s0_1220, s0_1221, s0_1222, s0_1223, s0_1224, sx_push, tf, List.length_cons, List.length_nil, Option.some.injEq, exists_eq_left', Nat.reduceAdd, Nat.reduceLeDiff, true_and, and_true, true_or, or_true, Int.zero_add, Nat.zero_le, eq_self, ne_eq, not_true_eq_false, not_false_eq_true, false_implies, true_implies, implies_true, b2i_0, b2i_1, b2i_01, up_sc, sc_at, sc_sc, ite_true, ite_false, if_true, if_false, Nat.reduceEqDiff, reduceIte, t00]
  repeat' (first | intro _ | refine And.intro ?_ ?_)
  all_goals first | omega | skip
  refine Rn_imp (Rn_k0 (cl29  σ h) t00.1) ?_
  rintro r T' σ1 ⟨⟨rfl, v, rfl, hR⟩, h0⟩
  simp only [s0_1227, s0_1228, s0_1229, s0_1230, s0_1231, s0_1232, s0_1233, s0_1234, s0_1235, s0_1236, s0_1237, s0_1238, s0_1239, s0_1240, s0_1241, s0_1242, s0_1243, s0_1244, s0_1245, s0_1246, s0_1247, s0_1248, sx_push, tf, List.length_cons, List.length_nil, Option.some.injEq, exists_eq_left', Nat.reduceAdd, Nat.reduceLeDiff, true_and, and_true, true_or, or_true, Int.zero_add, Nat.zero_le, eq_self, ne_eq, not_true_eq_false, not_false_eq_true, false_implies, true_implies, implies_true, b2i_0, b2i_1, b2i_01, up_sc, sc_at, sc_sc, ite_true, ite_false, if_true, if_false, Nat.reduceEqDiff, reduceIte, t00, h0]
  repeat' (first | intro _ | refine And.intro ?_ ?_)
  all_goals first | omega | skip
  refine Rn_imp hR ?_
  rintro r2 T2 σ2 ⟨rfl, rfl, hr2, h02⟩
  simp only [s0_1251, sx_push, tf, List.length_cons, List.length_nil, Option.some.injEq, exists_eq_left', Nat.reduceAdd, Nat.reduceLeDiff, true_and, and_true, true_or, or_true, Int.zero_add, Nat.zero_le, eq_self, ne_eq, not_true_eq_false, not_false_eq_true, false_implies, true_implies, implies_true, b2i_0, b2i_1, b2i_01, up_sc, sc_at, sc_sc, ite_true, ite_false, if_true, if_false, Nat.reduceEqDiff, reduceIte]
  repeat' (first | intro _ | refine And.intro ?_ ?_)
  all_goals first | omega | contradiction | exact hK σ2 hr2 h02
theorem lw30 (hc : c < 100000) (h : Rel c σ) (i0 : 0 ≤ i) (i1 : i + 6 ≤ n) (hn : n ≤ 3072) (hs : ∀ j, inI (σ 0 j)) (hK : ∀ σ2, Rel (c + 1) σ2 → σ2 0 = σ 0 → Rn 0 1657 [some (vR 0), some (vR 1), some (vR 149), some (vI i)] [] (T0 n) σ2 K) : Rn 0 1256 [some (vR 0), some (vR 1), some (vR 149), some (vI i)] [] (T0 n) σ K := by
  simp only [s0_1256, s0_1257, s0_1258, s0_1259, s0_1260, s0_1261, s0_1262, s0_1263, s0_1264, s0_1265, s0_1266, s0_1267, sx_push, tf, List.length_cons, List.length_nil, Option.some.injEq, exists_eq_left', Nat.reduceAdd, Nat.reduceLeDiff, true_and, and_true, true_or, or_true, Int.zero_add, Nat.zero_le, eq_self, ne_eq, not_true_eq_false, not_false_eq_true, false_implies, true_implies, implies_true, b2i_0, b2i_1, b2i_01, up_sc, sc_at, sc_sc, ite_true, ite_false, if_true, if_false, Nat.reduceEqDiff, reduceIte, t00]
  repeat' (first | intro _ | refine And.intro ?_ ?_)
  all_goals first | omega | skip
  refine Rn_imp (Rn_k0 (cl30  σ h) t00.1) ?_
  rintro r T' σ1 ⟨⟨rfl, v, rfl, hR⟩, h0⟩
  simp only [s0_1270, s0_1271, s0_1272, s0_1273, s0_1274, s0_1275, s0_1276, s0_1277, s0_1278, s0_1279, s0_1280, s0_1281, sx_push, tf, List.length_cons, List.length_nil, Option.some.injEq, exists_eq_left', Nat.reduceAdd, Nat.reduceLeDiff, true_and, and_true, true_or, or_true, Int.zero_add, Nat.zero_le, eq_self, ne_eq, not_true_eq_false, not_false_eq_true, false_implies, true_implies, implies_true, b2i_0, b2i_1, b2i_01, up_sc, sc_at, sc_sc, ite_true, ite_false, if_true, if_false, Nat.reduceEqDiff, reduceIte, t00, h0]
  repeat' (first | intro _ | refine And.intro ?_ ?_)
  all_goals first | omega | skip
  refine Rn_imp hR ?_
  rintro r2 T2 σ2 ⟨rfl, rfl, hr2, h02⟩
  simp only [s0_1284, sx_push, tf, List.length_cons, List.length_nil, Option.some.injEq, exists_eq_left', Nat.reduceAdd, Nat.reduceLeDiff, true_and, and_true, true_or, or_true, Int.zero_add, Nat.zero_le, eq_self, ne_eq, not_true_eq_false, not_false_eq_true, false_implies, true_implies, implies_true, b2i_0, b2i_1, b2i_01, up_sc, sc_at, sc_sc, ite_true, ite_false, if_true, if_false, Nat.reduceEqDiff, reduceIte]
  repeat' (first | intro _ | refine And.intro ?_ ?_)
  all_goals first | omega | contradiction | exact hK σ2 hr2 h02
theorem lw31 (hc : c < 100000) (h : Rel c σ) (i0 : 0 ≤ i) (i1 : i + 6 ≤ n) (hn : n ≤ 3072) (hs : ∀ j, inI (σ 0 j)) (hK : ∀ σ2, Rel (c + 1) σ2 → σ2 0 = σ 0 → Rn 0 1657 [some (vR 0), some (vR 1), some (vR 149), some (vI i)] [] (T0 n) σ2 K) : Rn 0 1289 [some (vR 0), some (vR 1), some (vR 149), some (vI i)] [] (T0 n) σ K := by
  simp only [s0_1289, s0_1290, s0_1291, s0_1292, s0_1293, s0_1294, s0_1295, sx_push, tf, List.length_cons, List.length_nil, Option.some.injEq, exists_eq_left', Nat.reduceAdd, Nat.reduceLeDiff, true_and, and_true, true_or, or_true, Int.zero_add, Nat.zero_le, eq_self, ne_eq, not_true_eq_false, not_false_eq_true, false_implies, true_implies, implies_true, b2i_0, b2i_1, b2i_01, up_sc, sc_at, sc_sc, ite_true, ite_false, if_true, if_false, Nat.reduceEqDiff, reduceIte, t00]
  repeat' (first | intro _ | refine And.intro ?_ ?_)
  all_goals first | omega | skip
  refine Rn_imp (Rn_k0 (cl31  σ h) t00.1) ?_
  rintro r T' σ1 ⟨⟨rfl, v, rfl, hR⟩, h0⟩
  simp only [s0_1298, s0_1299, s0_1300, s0_1301, s0_1302, s0_1303, s0_1304, sx_push, tf, List.length_cons, List.length_nil, Option.some.injEq, exists_eq_left', Nat.reduceAdd, Nat.reduceLeDiff, true_and, and_true, true_or, or_true, Int.zero_add, Nat.zero_le, eq_self, ne_eq, not_true_eq_false, not_false_eq_true, false_implies, true_implies, implies_true, b2i_0, b2i_1, b2i_01, up_sc, sc_at, sc_sc, ite_true, ite_false, if_true, if_false, Nat.reduceEqDiff, reduceIte, t00, h0]
  repeat' (first | intro _ | refine And.intro ?_ ?_)
  all_goals first | omega | skip
  refine Rn_imp hR ?_
  rintro r2 T2 σ2 ⟨rfl, rfl, hr2, h02⟩
  simp only [s0_1307, sx_push, tf, List.length_cons, List.length_nil, Option.some.injEq, exists_eq_left', Nat.reduceAdd, Nat.reduceLeDiff, true_and, and_true, true_or, or_true, Int.zero_add, Nat.zero_le, eq_self, ne_eq, not_true_eq_false, not_false_eq_true, false_implies, true_implies, implies_true, b2i_0, b2i_1, b2i_01, up_sc, sc_at, sc_sc, ite_true, ite_false, if_true, if_false, Nat.reduceEqDiff, reduceIte]
  repeat' (first | intro _ | refine And.intro ?_ ?_)
  all_goals first | omega | contradiction | exact hK σ2 hr2 h02
theorem lw32 (hc : c < 100000) (h : Rel c σ) (i0 : 0 ≤ i) (i1 : i + 6 ≤ n) (hn : n ≤ 3072) (hs : ∀ j, inI (σ 0 j)) (hK : ∀ σ2, Rel (c + 1) σ2 → σ2 0 = σ 0 → Rn 0 1657 [some (vR 0), some (vR 1), some (vR 149), some (vI i)] [] (T0 n) σ2 K) : Rn 0 1312 [some (vR 0), some (vR 1), some (vR 149), some (vI i)] [] (T0 n) σ K := by
  simp only [s0_1312, s0_1313, sx_push, tf, List.length_cons, List.length_nil, Option.some.injEq, exists_eq_left', Nat.reduceAdd, Nat.reduceLeDiff, true_and, and_true, true_or, or_true, Int.zero_add, Nat.zero_le, eq_self, ne_eq, not_true_eq_false, not_false_eq_true, false_implies, true_implies, implies_true, b2i_0, b2i_1, b2i_01, up_sc, sc_at, sc_sc, ite_true, ite_false, if_true, if_false, Nat.reduceEqDiff, reduceIte, t00]
  repeat' (first | intro _ | refine And.intro ?_ ?_)
  all_goals first | omega | skip
  refine Rn_imp (Rn_k0 (cl32 hc σ h) t00.1) ?_
  rintro r T' σ1 ⟨⟨rfl, v, rfl, hR⟩, h0⟩
  simp only [s0_1316, s0_1317, sx_push, tf, List.length_cons, List.length_nil, Option.some.injEq, exists_eq_left', Nat.reduceAdd, Nat.reduceLeDiff, true_and, and_true, true_or, or_true, Int.zero_add, Nat.zero_le, eq_self, ne_eq, not_true_eq_false, not_false_eq_true, false_implies, true_implies, implies_true, b2i_0, b2i_1, b2i_01, up_sc, sc_at, sc_sc, ite_true, ite_false, if_true, if_false, Nat.reduceEqDiff, reduceIte, t00, h0]
  repeat' (first | intro _ | refine And.intro ?_ ?_)
  all_goals first | omega | skip
  refine Rn_imp hR ?_
  rintro r2 T2 σ2 ⟨rfl, rfl, hr2, h02⟩
  simp only [s0_1320, sx_push, tf, List.length_cons, List.length_nil, Option.some.injEq, exists_eq_left', Nat.reduceAdd, Nat.reduceLeDiff, true_and, and_true, true_or, or_true, Int.zero_add, Nat.zero_le, eq_self, ne_eq, not_true_eq_false, not_false_eq_true, false_implies, true_implies, implies_true, b2i_0, b2i_1, b2i_01, up_sc, sc_at, sc_sc, ite_true, ite_false, if_true, if_false, Nat.reduceEqDiff, reduceIte]
  repeat' (first | intro _ | refine And.intro ?_ ?_)
  all_goals first | omega | contradiction | exact hK σ2 hr2 h02
theorem lw33 (hc : c < 100000) (h : Rel c σ) (i0 : 0 ≤ i) (i1 : i + 6 ≤ n) (hn : n ≤ 3072) (hs : ∀ j, inI (σ 0 j)) (hK : ∀ σ2, Rel (c + 1) σ2 → σ2 0 = σ 0 → Rn 0 1657 [some (vR 0), some (vR 1), some (vR 149), some (vI i)] [] (T0 n) σ2 K) : Rn 0 1325 [some (vR 0), some (vR 1), some (vR 149), some (vI i)] [] (T0 n) σ K := by
  simp only [s0_1325, s0_1326, s0_1327, s0_1328, s0_1329, s0_1330, s0_1331, sx_push, tf, List.length_cons, List.length_nil, Option.some.injEq, exists_eq_left', Nat.reduceAdd, Nat.reduceLeDiff, true_and, and_true, true_or, or_true, Int.zero_add, Nat.zero_le, eq_self, ne_eq, not_true_eq_false, not_false_eq_true, false_implies, true_implies, implies_true, b2i_0, b2i_1, b2i_01, up_sc, sc_at, sc_sc, ite_true, ite_false, if_true, if_false, Nat.reduceEqDiff, reduceIte, t00]
  repeat' (first | intro _ | refine And.intro ?_ ?_)
  all_goals first | omega | skip
  refine Rn_imp (Rn_k0 (cl33 (hs _) σ h) t00.1) ?_
  rintro r T' σ1 ⟨⟨rfl, v, rfl, hR⟩, h0⟩
  simp only [s0_1334, s0_1335, s0_1336, s0_1337, s0_1338, s0_1339, s0_1340, sx_push, tf, List.length_cons, List.length_nil, Option.some.injEq, exists_eq_left', Nat.reduceAdd, Nat.reduceLeDiff, true_and, and_true, true_or, or_true, Int.zero_add, Nat.zero_le, eq_self, ne_eq, not_true_eq_false, not_false_eq_true, false_implies, true_implies, implies_true, b2i_0, b2i_1, b2i_01, up_sc, sc_at, sc_sc, ite_true, ite_false, if_true, if_false, Nat.reduceEqDiff, reduceIte, t00, h0]
  repeat' (first | intro _ | refine And.intro ?_ ?_)
  all_goals first | omega | skip
  refine Rn_imp hR ?_
  rintro r2 T2 σ2 ⟨rfl, rfl, hr2, h02⟩
  simp only [s0_1343, sx_push, tf, List.length_cons, List.length_nil, Option.some.injEq, exists_eq_left', Nat.reduceAdd, Nat.reduceLeDiff, true_and, and_true, true_or, or_true, Int.zero_add, Nat.zero_le, eq_self, ne_eq, not_true_eq_false, not_false_eq_true, false_implies, true_implies, implies_true, b2i_0, b2i_1, b2i_01, up_sc, sc_at, sc_sc, ite_true, ite_false, if_true, if_false, Nat.reduceEqDiff, reduceIte]
  repeat' (first | intro _ | refine And.intro ?_ ?_)
  all_goals first | omega | contradiction | exact hK σ2 hr2 h02
theorem lw34 (hc : c < 100000) (h : Rel c σ) (i0 : 0 ≤ i) (i1 : i + 6 ≤ n) (hn : n ≤ 3072) (hs : ∀ j, inI (σ 0 j)) (hK : ∀ σ2, Rel (c + 1) σ2 → σ2 0 = σ 0 → Rn 0 1657 [some (vR 0), some (vR 1), some (vR 149), some (vI i)] [] (T0 n) σ2 K) : Rn 0 1348 [some (vR 0), some (vR 1), some (vR 149), some (vI i)] [] (T0 n) σ K := by
  simp only [s0_1348, s0_1349, s0_1350, s0_1351, s0_1352, s0_1353, s0_1354, sx_push, tf, List.length_cons, List.length_nil, Option.some.injEq, exists_eq_left', Nat.reduceAdd, Nat.reduceLeDiff, true_and, and_true, true_or, or_true, Int.zero_add, Nat.zero_le, eq_self, ne_eq, not_true_eq_false, not_false_eq_true, false_implies, true_implies, implies_true, b2i_0, b2i_1, b2i_01, up_sc, sc_at, sc_sc, ite_true, ite_false, if_true, if_false, Nat.reduceEqDiff, reduceIte, t00]
  repeat' (first | intro _ | refine And.intro ?_ ?_)
  all_goals first | omega | skip
  refine Rn_imp (Rn_k0 (cl34  σ h) t00.1) ?_
  rintro r T' σ1 ⟨⟨rfl, v, rfl, hR⟩, h0⟩
  simp only [s0_1357, s0_1358, s0_1359, s0_1360, s0_1361, s0_1362, s0_1363, sx_push, tf, List.length_cons, List.length_nil, Option.some.injEq, exists_eq_left', Nat.reduceAdd, Nat.reduceLeDiff, true_and, and_true, true_or, or_true, Int.zero_add, Nat.zero_le, eq_self, ne_eq, not_true_eq_false, not_false_eq_true, false_implies, true_implies, implies_true, b2i_0, b2i_1, b2i_01, up_sc, sc_at, sc_sc, ite_true, ite_false, if_true, if_false, Nat.reduceEqDiff, reduceIte, t00, h0]
  repeat' (first | intro _ | refine And.intro ?_ ?_)
  all_goals first | omega | skip
  refine Rn_imp hR ?_
  rintro r2 T2 σ2 ⟨rfl, rfl, hr2, h02⟩
  simp only [s0_1366, sx_push, tf, List.length_cons, List.length_nil, Option.some.injEq, exists_eq_left', Nat.reduceAdd, Nat.reduceLeDiff, true_and, and_true, true_or, or_true, Int.zero_add, Nat.zero_le, eq_self, ne_eq, not_true_eq_false, not_false_eq_true, false_implies, true_implies, implies_true, b2i_0, b2i_1, b2i_01, up_sc, sc_at, sc_sc, ite_true, ite_false, if_true, if_false, Nat.reduceEqDiff, reduceIte]
  repeat' (first | intro _ | refine And.intro ?_ ?_)
  all_goals first | omega | contradiction | exact hK σ2 hr2 h02
theorem lw35 (hc : c < 100000) (h : Rel c σ) (i0 : 0 ≤ i) (i1 : i + 6 ≤ n) (hn : n ≤ 3072) (hs : ∀ j, inI (σ 0 j)) (hK : ∀ σ2, Rel (c + 1) σ2 → σ2 0 = σ 0 → Rn 0 1657 [some (vR 0), some (vR 1), some (vR 149), some (vI i)] [] (T0 n) σ2 K) : Rn 0 1371 [some (vR 0), some (vR 1), some (vR 149), some (vI i)] [] (T0 n) σ K := by
  simp only [s0_1371, s0_1372, s0_1373, s0_1374, s0_1375, s0_1376, s0_1377, s0_1378, s0_1379, s0_1380, s0_1381, s0_1382, s0_1383, s0_1384, s0_1385, s0_1386, s0_1387, sx_push, tf, List.length_cons, List.length_nil, Option.some.injEq, exists_eq_left', Nat.reduceAdd, Nat.reduceLeDiff, true_and, and_true, true_or, or_true, Int.zero_add, Nat.zero_le, eq_self, ne_eq, not_true_eq_false, not_false_eq_true, false_implies, true_implies, implies_true, b2i_0, b2i_1, b2i_01, up_sc, sc_at, sc_sc, ite_true, ite_false, if_true, if_false, Nat.reduceEqDiff, reduceIte, t00]
  repeat' (first | intro _ | refine And.intro ?_ ?_)
  all_goals first | omega | skip
  refine Rn_imp (Rn_k0 (cl35 hc σ h) t00.1) ?_
  rintro r T' σ1 ⟨⟨rfl, v, rfl, hR⟩, h0⟩
  simp only [s0_1390, s0_1391, s0_1392, s0_1393, s0_1394, s0_1395, s0_1396, s0_1397, s0_1398, s0_1399, s0_1400, s0_1401, s0_1402, s0_1403, s0_1404, s0_1405, s0_1406, sx_push, tf, List.length_cons, List.length_nil, Option.some.injEq, exists_eq_left', Nat.reduceAdd, Nat.reduceLeDiff, true_and, and_true, true_or, or_true, Int.zero_add, Nat.zero_le, eq_self, ne_eq, not_true_eq_false, not_false_eq_true, false_implies, true_implies, implies_true, b2i_0, b2i_1, b2i_01, up_sc, sc_at, sc_sc, ite_true, ite_false, if_true, if_false, Nat.reduceEqDiff, reduceIte, t00, h0]
  repeat' (first | intro _ | refine And.intro ?_ ?_)
  all_goals first | omega | skip
  refine Rn_imp hR ?_
  rintro r2 T2 σ2 ⟨rfl, rfl, hr2, h02⟩
  simp only [s0_1409, sx_push, tf, List.length_cons, List.length_nil, Option.some.injEq, exists_eq_left', Nat.reduceAdd, Nat.reduceLeDiff, true_and, and_true, true_or, or_true, Int.zero_add, Nat.zero_le, eq_self, ne_eq, not_true_eq_false, not_false_eq_true, false_implies, true_implies, implies_true, b2i_0, b2i_1, b2i_01, up_sc, sc_at, sc_sc, ite_true, ite_false, if_true, if_false, Nat.reduceEqDiff, reduceIte]
  repeat' (first | intro _ | refine And.intro ?_ ?_)
  all_goals first | omega | contradiction | exact hK σ2 hr2 h02
theorem lw36 (hc : c < 100000) (h : Rel c σ) (i0 : 0 ≤ i) (i1 : i + 6 ≤ n) (hn : n ≤ 3072) (hs : ∀ j, inI (σ 0 j)) (hK : ∀ σ2, Rel (c + 1) σ2 → σ2 0 = σ 0 → Rn 0 1657 [some (vR 0), some (vR 1), some (vR 149), some (vI i)] [] (T0 n) σ2 K) : Rn 0 1414 [some (vR 0), some (vR 1), some (vR 149), some (vI i)] [] (T0 n) σ K := by
  simp only [s0_1414, s0_1415, s0_1416, s0_1417, s0_1418, s0_1419, s0_1420, sx_push, tf, List.length_cons, List.length_nil, Option.some.injEq, exists_eq_left', Nat.reduceAdd, Nat.reduceLeDiff, true_and, and_true, true_or, or_true, Int.zero_add, Nat.zero_le, eq_self, ne_eq, not_true_eq_false, not_false_eq_true, false_implies, true_implies, implies_true, b2i_0, b2i_1, b2i_01, up_sc, sc_at, sc_sc, ite_true, ite_false, if_true, if_false, Nat.reduceEqDiff, reduceIte, t00]
  repeat' (first | intro _ | refine And.intro ?_ ?_)
  all_goals first | omega | skip
  refine Rn_imp (Rn_k0 (cl36 hc σ h) t00.1) ?_
  rintro r T' σ1 ⟨⟨rfl, v, rfl, hR⟩, h0⟩
  simp only [s0_1423, s0_1424, s0_1425, s0_1426, s0_1427, s0_1428, s0_1429, sx_push, tf, List.length_cons, List.length_nil, Option.some.injEq, exists_eq_left', Nat.reduceAdd, Nat.reduceLeDiff, true_and, and_true, true_or, or_true, Int.zero_add, Nat.zero_le, eq_self, ne_eq, not_true_eq_false, not_false_eq_true, false_implies, true_implies, implies_true, b2i_0, b2i_1, b2i_01, up_sc, sc_at, sc_sc, ite_true, ite_false, if_true, if_false, Nat.reduceEqDiff, reduceIte, t00, h0]
  repeat' (first | intro _ | refine And.intro ?_ ?_)
  all_goals first | omega | skip
  refine Rn_imp hR ?_
  rintro r2 T2 σ2 ⟨rfl, rfl, hr2, h02⟩
  simp only [s0_1432, sx_push, tf, List.length_cons, List.length_nil, Option.some.injEq, exists_eq_left', Nat.reduceAdd, Nat.reduceLeDiff, true_and, and_true, true_or, or_true, Int.zero_add, Nat.zero_le, eq_self, ne_eq, not_true_eq_false, not_false_eq_true, false_implies, true_implies, implies_true, b2i_0, b2i_1, b2i_01, up_sc, sc_at, sc_sc, ite_true, ite_false, if_true, if_false, Nat.reduceEqDiff, reduceIte]
  repeat' (first | intro _ | refine And.intro ?_ ?_)
  all_goals first | omega | contradiction | exact hK σ2 hr2 h02
theorem lw37 (hc : c < 100000) (h : Rel c σ) (i0 : 0 ≤ i) (i1 : i + 6 ≤ n) (hn : n ≤ 3072) (hs : ∀ j, inI (σ 0 j)) (hK : ∀ σ2, Rel (c + 1) σ2 → σ2 0 = σ 0 → Rn 0 1657 [some (vR 0), some (vR 1), some (vR 149), some (vI i)] [] (T0 n) σ2 K) : Rn 0 1437 [some (vR 0), some (vR 1), some (vR 149), some (vI i)] [] (T0 n) σ K := by
  simp only [s0_1437, s0_1438, s0_1439, s0_1440, s0_1441, s0_1442, s0_1443, s0_1444, s0_1445, s0_1446, s0_1447, s0_1448, s0_1449, s0_1450, s0_1451, s0_1452, s0_1453, s0_1454, s0_1455, s0_1456, s0_1457, s0_1458, sx_push, tf, List.length_cons, List.length_nil, Option.some.injEq, exists_eq_left', Nat.reduceAdd, Nat.reduceLeDiff, true_and, and_true, true_or, or_true, Int.zero_add, Nat.zero_le, eq_self, ne_eq, not_true_eq_false, not_false_eq_true, false_implies, true_implies, implies_true, b2i_0, b2i_1, b2i_01, up_sc, sc_at, sc_sc, ite_true, ite_false, if_true, if_false, Nat.reduceEqDiff, reduceIte, t00]
  repeat' (first | intro _ | refine And.intro ?_ ?_)
  all_goals first | omega | skip
  refine Rn_imp (Rn_k0 (cl37 hc σ h) t00.1) ?_
  rintro r T' σ1 ⟨⟨rfl, v, rfl, hR⟩, h0⟩
  simp only [s0_1461, s0_1462, s0_1463, s0_1464, s0_1465, s0_1466, s0_1467, s0_1468, s0_1469, s0_1470, s0_1471, s0_1472, s0_1473, s0_1474, s0_1475, s0_1476, s0_1477, s0_1478, s0_1479, s0_1480, s0_1481, s0_1482, sx_push, tf, List.length_cons, List.length_nil, Option.some.injEq, exists_eq_left', Nat.reduceAdd, Nat.reduceLeDiff, true_and, and_true, true_or, or_true, Int.zero_add, Nat.zero_le, eq_self, ne_eq, not_true_eq_false, not_false_eq_true, false_implies, true_implies, implies_true, b2i_0, b2i_1, b2i_01, up_sc, sc_at, sc_sc, ite_true, ite_false, if_true, if_false, Nat.reduceEqDiff, reduceIte, t00, h0]
  repeat' (first | intro _ | refine And.intro ?_ ?_)
  all_goals first | omega | skip
  refine Rn_imp hR ?_
  rintro r2 T2 σ2 ⟨rfl, rfl, hr2, h02⟩
  simp only [s0_1485, sx_push, tf, List.length_cons, List.length_nil, Option.some.injEq, exists_eq_left', Nat.reduceAdd, Nat.reduceLeDiff, true_and, and_true, true_or, or_true, Int.zero_add, Nat.zero_le, eq_self, ne_eq, not_true_eq_false, not_false_eq_true, false_implies, true_implies, implies_true, b2i_0, b2i_1, b2i_01, up_sc, sc_at, sc_sc, ite_true, ite_false, if_true, if_false, Nat.reduceEqDiff, reduceIte]
  repeat' (first | intro _ | refine And.intro ?_ ?_)
  all_goals first | omega | contradiction | exact hK σ2 hr2 h02
theorem lw38 (hc : c < 100000) (h : Rel c σ) (i0 : 0 ≤ i) (i1 : i + 6 ≤ n) (hn : n ≤ 3072) (hs : ∀ j, inI (σ 0 j)) (hK : ∀ σ2, Rel (c + 1) σ2 → σ2 0 = σ 0 → Rn 0 1657 [some (vR 0), some (vR 1), some (vR 149), some (vI i)] [] (T0 n) σ2 K) : Rn 0 1490 [some (vR 0), some (vR 1), some (vR 149), some (vI i)] [] (T0 n) σ K := by
  simp only [s0_1490, s0_1491, s0_1492, s0_1493, s0_1494, s0_1495, s0_1496, sx_push, tf, List.length_cons, List.length_nil, Option.some.injEq, exists_eq_left', Nat.reduceAdd, Nat.reduceLeDiff, true_and, and_true, true_or, or_true, Int.zero_add, Nat.zero_le, eq_self, ne_eq, not_true_eq_false, not_false_eq_true, false_implies, true_implies, implies_true, b2i_0, b2i_1, b2i_01, up_sc, sc_at, sc_sc, ite_true, ite_false, if_true, if_false, Nat.reduceEqDiff, reduceIte, t00]
  repeat' (first | intro _ | refine And.intro ?_ ?_)
  all_goals first | omega | skip
  refine Rn_imp (Rn_k0 (cl38 hc σ h) t00.1) ?_
  rintro r T' σ1 ⟨⟨rfl, v, rfl, hR⟩, h0⟩
  simp only [s0_1499, s0_1500, s0_1501, s0_1502, s0_1503, s0_1504, s0_1505, sx_push, tf, List.length_cons, List.length_nil, Option.some.injEq, exists_eq_left', Nat.reduceAdd, Nat.reduceLeDiff, true_and, and_true, true_or, or_true, Int.zero_add, Nat.zero_le, eq_self, ne_eq, not_true_eq_false, not_false_eq_true, false_implies, true_implies, implies_true, b2i_0, b2i_1, b2i_01, up_sc, sc_at, sc_sc, ite_true, ite_false, if_true, if_false, Nat.reduceEqDiff, reduceIte, t00, h0]
  repeat' (first | intro _ | refine And.intro ?_ ?_)
  all_goals first | omega | skip
  refine Rn_imp hR ?_
  rintro r2 T2 σ2 ⟨rfl, rfl, hr2, h02⟩
  simp only [s0_1508, sx_push, tf, List.length_cons, List.length_nil, Option.some.injEq, exists_eq_left', Nat.reduceAdd, Nat.reduceLeDiff, true_and, and_true, true_or, or_true, Int.zero_add, Nat.zero_le, eq_self, ne_eq, not_true_eq_false, not_false_eq_true, false_implies, true_implies, implies_true, b2i_0, b2i_1, b2i_01, up_sc, sc_at, sc_sc, ite_true, ite_false, if_true, if_false, Nat.reduceEqDiff, reduceIte]
  repeat' (first | intro _ | refine And.intro ?_ ?_)
  all_goals first | omega | contradiction | exact hK σ2 hr2 h02
theorem lw39 (hc : c < 100000) (h : Rel c σ) (i0 : 0 ≤ i) (i1 : i + 6 ≤ n) (hn : n ≤ 3072) (hs : ∀ j, inI (σ 0 j)) (hK : ∀ σ2, Rel (c + 1) σ2 → σ2 0 = σ 0 → Rn 0 1657 [some (vR 0), some (vR 1), some (vR 149), some (vI i)] [] (T0 n) σ2 K) : Rn 0 1513 [some (vR 0), some (vR 1), some (vR 149), some (vI i)] [] (T0 n) σ K := by
  simp only [s0_1513, s0_1514, sx_push, tf, List.length_cons, List.length_nil, Option.some.injEq, exists_eq_left', Nat.reduceAdd, Nat.reduceLeDiff, true_and, and_true, true_or, or_true, Int.zero_add, Nat.zero_le, eq_self, ne_eq, not_true_eq_false, not_false_eq_true, false_implies, true_implies, implies_true, b2i_0, b2i_1, b2i_01, up_sc, sc_at, sc_sc, ite_true, ite_false, if_true, if_false, Nat.reduceEqDiff, reduceIte, t00]
  repeat' (first | intro _ | refine And.intro ?_ ?_)
  all_goals first | omega | skip
  refine Rn_imp (Rn_k0 (cl39 hc σ h) t00.1) ?_
  rintro r T' σ1 ⟨⟨rfl, v, rfl, hR⟩, h0⟩
  simp only [s0_1517, s0_1518, sx_push, tf, List.length_cons, List.length_nil, Option.some.injEq, exists_eq_left', Nat.reduceAdd, Nat.reduceLeDiff, true_and, and_true, true_or, or_true, Int.zero_add, Nat.zero_le, eq_self, ne_eq, not_true_eq_false, not_false_eq_true, false_implies, true_implies, implies_true, b2i_0, b2i_1, b2i_01, up_sc, sc_at, sc_sc, ite_true, ite_false, if_true, if_false, Nat.reduceEqDiff, reduceIte, t00, h0]
  repeat' (first | intro _ | refine And.intro ?_ ?_)
  all_goals first | omega | skip
  refine Rn_imp hR ?_
  rintro r2 T2 σ2 ⟨rfl, rfl, hr2, h02⟩
  simp only [s0_1521, sx_push, tf, List.length_cons, List.length_nil, Option.some.injEq, exists_eq_left', Nat.reduceAdd, Nat.reduceLeDiff, true_and, and_true, true_or, or_true, Int.zero_add, Nat.zero_le, eq_self, ne_eq, not_true_eq_false, not_false_eq_true, false_implies, true_implies, implies_true, b2i_0, b2i_1, b2i_01, up_sc, sc_at, sc_sc, ite_true, ite_false, if_true, if_false, Nat.reduceEqDiff, reduceIte]
  repeat' (first | intro _ | refine And.intro ?_ ?_)
  all_goals first | omega | contradiction | exact hK σ2 hr2 h02
theorem lw40 (hc : c < 100000) (h : Rel c σ) (i0 : 0 ≤ i) (i1 : i + 6 ≤ n) (hn : n ≤ 3072) (hs : ∀ j, inI (σ 0 j)) (hK : ∀ σ2, Rel (c + 1) σ2 → σ2 0 = σ 0 → Rn 0 1657 [some (vR 0), some (vR 1), some (vR 149), some (vI i)] [] (T0 n) σ2 K) : Rn 0 1526 [some (vR 0), some (vR 1), some (vR 149), some (vI i)] [] (T0 n) σ K := by
  simp only [s0_1526, s0_1527, s0_1528, s0_1529, s0_1530, s0_1531, s0_1532, sx_push, tf, List.length_cons, List.length_nil, Option.some.injEq, exists_eq_left', Nat.reduceAdd, Nat.reduceLeDiff, true_and, and_true, true_or, or_true, Int.zero_add, Nat.zero_le, eq_self, ne_eq, not_true_eq_false, not_false_eq_true, false_implies, true_implies, implies_true, b2i_0, b2i_1, b2i_01, up_sc, sc_at, sc_sc, ite_true, ite_false, if_true, if_false, Nat.reduceEqDiff, reduceIte, t00]
  repeat' (first | intro _ | refine And.intro ?_ ?_)
  all_goals first | omega | skip
  refine Rn_imp (Rn_k0 (cl40 hc σ h) t00.1) ?_
  rintro r T' σ1 ⟨⟨rfl, v, rfl, hR⟩, h0⟩
  simp only [s0_1535, s0_1536, s0_1537, s0_1538, s0_1539, s0_1540, s0_1541, sx_push, tf, List.length_cons, List.length_nil, Option.some.injEq, exists_eq_left', Nat.reduceAdd, Nat.reduceLeDiff, true_and, and_true, true_or, or_true, Int.zero_add, Nat.zero_le, eq_self, ne_eq, not_true_eq_false, not_false_eq_true, false_implies, true_implies, implies_true, b2i_0, b2i_1, b2i_01, up_sc, sc_at, sc_sc, ite_true, ite_false, if_true, if_false, Nat.reduceEqDiff, reduceIte, t00, h0]
  repeat' (first | intro _ | refine And.intro ?_ ?_)
  all_goals first | omega | skip
  refine Rn_imp hR ?_
  rintro r2 T2 σ2 ⟨rfl, rfl, hr2, h02⟩
  simp only [s0_1544, sx_push, tf, List.length_cons, List.length_nil, Option.some.injEq, exists_eq_left', Nat.reduceAdd, Nat.reduceLeDiff, true_and, and_true, true_or, or_true, Int.zero_add, Nat.zero_le, eq_self, ne_eq, not_true_eq_false, not_false_eq_true, false_implies, true_implies, implies_true, b2i_0, b2i_1, b2i_01, up_sc, sc_at, sc_sc, ite_true, ite_false, if_true, if_false, Nat.reduceEqDiff, reduceIte]
  repeat' (first | intro _ | refine And.intro ?_ ?_)
  all_goals first | omega | contradiction | exact hK σ2 hr2 h02
theorem lw41 (hc : c < 100000) (h : Rel c σ) (i0 : 0 ≤ i) (i1 : i + 6 ≤ n) (hn : n ≤ 3072) (hs : ∀ j, inI (σ 0 j)) (hK : ∀ σ2, Rel (c + 1) σ2 → σ2 0 = σ 0 → Rn 0 1657 [some (vR 0), some (vR 1), some (vR 149), some (vI i)] [] (T0 n) σ2 K) : Rn 0 1549 [some (vR 0), some (vR 1), some (vR 149), some (vI i)] [] (T0 n) σ K := by
  simp only [s0_1549, s0_1550, sx_push, tf, List.length_cons, List.length_nil, Option.some.injEq, exists_eq_left', Nat.reduceAdd, Nat.reduceLeDiff, true_and, and_true, true_or, or_true, Int.zero_add, Nat.zero_le, eq_self, ne_eq, not_true_eq_false, not_false_eq_true, false_implies, true_implies, implies_true, b2i_0, b2i_1, b2i_01, up_sc, sc_at, sc_sc, ite_true, ite_false, if_true, if_false, Nat.reduceEqDiff, reduceIte, t00]
  repeat' (first | intro _ | refine And.intro ?_ ?_)
  all_goals first | omega | skip
  refine Rn_imp (Rn_k0 (cl41 hc σ h) t00.1) ?_
  rintro r T' σ1 ⟨⟨rfl, v, rfl, hR⟩, h0⟩
  simp only [s0_1553, s0_1554, sx_push, tf, List.length_cons, List.length_nil, Option.some.injEq, exists_eq_left', Nat.reduceAdd, Nat.reduceLeDiff, true_and, and_true, true_or, or_true, Int.zero_add, Nat.zero_le, eq_self, ne_eq, not_true_eq_false, not_false_eq_true, false_implies, true_implies, implies_true, b2i_0, b2i_1, b2i_01, up_sc, sc_at, sc_sc, ite_true, ite_false, if_true, if_false, Nat.reduceEqDiff, reduceIte, t00, h0]
  repeat' (first | intro _ | refine And.intro ?_ ?_)
  all_goals first | omega | skip
  refine Rn_imp hR ?_
  rintro r2 T2 σ2 ⟨rfl, rfl, hr2, h02⟩
  simp only [s0_1557, sx_push, tf, List.length_cons, List.length_nil, Option.some.injEq, exists_eq_left', Nat.reduceAdd, Nat.reduceLeDiff, true_and, and_true, true_or, or_true, Int.zero_add, Nat.zero_le, eq_self, ne_eq, not_true_eq_false, not_false_eq_true, false_implies, true_implies, implies_true, b2i_0, b2i_1, b2i_01, up_sc, sc_at, sc_sc, ite_true, ite_false, if_true, if_false, Nat.reduceEqDiff, reduceIte]
  repeat' (first | intro _ | refine And.intro ?_ ?_)
  all_goals first | omega | contradiction | exact hK σ2 hr2 h02
theorem lw42 (hc : c < 100000) (h : Rel c σ) (i0 : 0 ≤ i) (i1 : i + 6 ≤ n) (hn : n ≤ 3072) (hs : ∀ j, inI (σ 0 j)) (hK : ∀ σ2, Rel (c + 1) σ2 → σ2 0 = σ 0 → Rn 0 1657 [some (vR 0), some (vR 1), some (vR 149), some (vI i)] [] (T0 n) σ2 K) : Rn 0 1562 [some (vR 0), some (vR 1), some (vR 149), some (vI i)] [] (T0 n) σ K := by
  simp only [s0_1562, s0_1563, s0_1564, s0_1565, s0_1566, s0_1567, s0_1568, sx_push, tf, List.length_cons, List.length_nil, Option.some.injEq, exists_eq_left', Nat.reduceAdd, Nat.reduceLeDiff, true_and, and_true, true_or, or_true, Int.zero_add, Nat.zero_le, eq_self, ne_eq, not_true_eq_false, not_false_eq_true, false_implies, true_implies, implies_true, b2i_0, b2i_1, b2i_01, up_sc, sc_at, sc_sc, ite_true, ite_false, if_true, if_false, Nat.reduceEqDiff, reduceIte, t00]
  repeat' (first | intro _ | refine And.intro ?_ ?_)
  all_goals first | omega | skip
  refine Rn_imp (Rn_k0 (cl42 hc (hs _) σ h) t00.1) ?_
  rintro r T' σ1 ⟨⟨rfl, v, rfl, hR⟩, h0⟩
  simp only [s0_1571, s0_1572, s0_1573, s0_1574, s0_1575, s0_1576, s0_1577, sx_push, tf, List.length_cons, List.length_nil, Option.some.injEq, exists_eq_left', Nat.reduceAdd, Nat.reduceLeDiff, true_and, and_true, true_or, or_true, Int.zero_add, Nat.zero_le, eq_self, ne_eq, not_true_eq_false, not_false_eq_true, false_implies, true_implies, implies_true, b2i_0, b2i_1, b2i_01, up_sc, sc_at, sc_sc, ite_true, ite_false, if_true, if_false, Nat.reduceEqDiff, reduceIte, t00, h0]
  repeat' (first | intro _ | refine And.intro ?_ ?_)
  all_goals first | omega | skip
  refine Rn_imp hR ?_
  rintro r2 T2 σ2 ⟨rfl, rfl, hr2, h02⟩
  simp only [s0_1580, sx_push, tf, List.length_cons, List.length_nil, Option.some.injEq, exists_eq_left', Nat.reduceAdd, Nat.reduceLeDiff, true_and, and_true, true_or, or_true, Int.zero_add, Nat.zero_le, eq_self, ne_eq, not_true_eq_false, not_false_eq_true, false_implies, true_implies, implies_true, b2i_0, b2i_1, b2i_01, up_sc, sc_at, sc_sc, ite_true, ite_false, if_true, if_false, Nat.reduceEqDiff, reduceIte]
  repeat' (first | intro _ | refine And.intro ?_ ?_)
  all_goals first | omega | contradiction | exact hK σ2 hr2 h02
theorem lw43 (hc : c < 100000) (h : Rel c σ) (i0 : 0 ≤ i) (i1 : i + 6 ≤ n) (hn : n ≤ 3072) (hs : ∀ j, inI (σ 0 j)) (hK : ∀ σ2, Rel (c + 1) σ2 → σ2 0 = σ 0 → Rn 0 1657 [some (vR 0), some (vR 1), some (vR 149), some (vI i)] [] (T0 n) σ2 K) : Rn 0 1585 [some (vR 0), some (vR 1), some (vR 149), some (vI i)] [] (T0 n) σ K := by
  simp only [s0_1585, s0_1586, sx_push, tf, List.length_cons, List.length_nil, Option.some.injEq, exists_eq_left', Nat.reduceAdd, Nat.reduceLeDiff, true_and, and_true, true_or, or_true, Int.zero_add, Nat.zero_le, eq_self, ne_eq, not_true_eq_false, not_false_eq_true, false_implies, true_implies, implies_true, b2i_0, b2i_1, b2i_01, up_sc, sc_at, sc_sc, ite_true, ite_false, if_true, if_false, Nat.reduceEqDiff, reduceIte, t00]
  repeat' (first | intro _ | refine And.intro ?_ ?_)
  all_goals first | omega | skip
  refine Rn_imp (Rn_k0 (cl43  σ h) t00.1) ?_
  rintro r T' σ1 ⟨⟨rfl, v, rfl, hR⟩, h0⟩
  simp only [s0_1589, s0_1590, sx_push, tf, List.length_cons, List.length_nil, Option.some.injEq, exists_eq_left', Nat.reduceAdd, Nat.reduceLeDiff, true_and, and_true, true_or, or_true, Int.zero_add, Nat.zero_le, eq_self, ne_eq, not_true_eq_false, not_false_eq_true, false_implies, true_implies, implies_true, b2i_0, b2i_1, b2i_01, up_sc, sc_at, sc_sc, ite_true, ite_false, if_true, if_false, Nat.reduceEqDiff, reduceIte, t00, h0]
  repeat' (first | intro _ | refine And.intro ?_ ?_)
  all_goals first | omega | skip
  refine Rn_imp hR ?_
  rintro r2 T2 σ2 ⟨rfl, rfl, hr2, h02⟩
  simp only [s0_1593, sx_push, tf, List.length_cons, List.length_nil, Option.some.injEq, exists_eq_left', Nat.reduceAdd, Nat.reduceLeDiff, true_and, and_true, true_or, or_true, Int.zero_add, Nat.zero_le, eq_self, ne_eq, not_true_eq_false, not_false_eq_true, false_implies, true_implies, implies_true, b2i_0, b2i_1, b2i_01, up_sc, sc_at, sc_sc, ite_true, ite_false, if_true, if_false, Nat.reduceEqDiff, reduceIte]
  repeat' (first | intro _ | refine And.intro ?_ ?_)
  all_goals first | omega | contradiction | exact hK σ2 hr2 h02
theorem lw44 (hc : c < 100000) (h : Rel c σ) (i0 : 0 ≤ i) (i1 : i + 6 ≤ n) (hn : n ≤ 3072) (hs : ∀ j, inI (σ 0 j)) (hK : ∀ σ2, Rel (c + 1) σ2 → σ2 0 = σ 0 → Rn 0 1657 [some (vR 0), some (vR 1), some (vR 149), some (vI i)] [] (T0 n) σ2 K) : Rn 0 1598 [some (vR 0), some (vR 1), some (vR 149), some (vI i)] [] (T0 n) σ K := by
  simp only [s0_1598, s0_1599, s0_1600, s0_1601, s0_1602, s0_1603, s0_1604, sx_push, tf, List.length_cons, List.length_nil, Option.some.injEq, exists_eq_left', Nat.reduceAdd, Nat.reduceLeDiff, true_and, and_true, true_or, or_true, Int.zero_add, Nat.zero_le, eq_self, ne_eq, not_true_eq_false, not_false_eq_true, false_implies, true_implies, implies_true, b2i_0, b2i_1, b2i_01, up_sc, sc_at, sc_sc, ite_true, ite_false, if_true, if_false, Nat.reduceEqDiff, reduceIte, t00]
  repeat' (first | intro _ | refine And.intro ?_ ?_)
  all_goals first | omega | skip
  refine Rn_imp (Rn_k0 (cl44  σ h) t00.1) ?_
  rintro r T' σ1 ⟨⟨rfl, v, rfl, hR⟩, h0⟩
  simp only [s0_1607, s0_1608, s0_1609, s0_1610, s0_1611, s0_1612, s0_1613, sx_push, tf, List.length_cons, List.length_nil, Option.some.injEq, exists_eq_left', Nat.reduceAdd, Nat.reduceLeDiff, true_and, and_true, true_or, or_true, Int.zero_add, Nat.zero_le, eq_self, ne_eq, not_true_eq_false, not_false_eq_true, false_implies, true_implies, implies_true, b2i_0, b2i_1, b2i_01, up_sc, sc_at, sc_sc, ite_true, ite_false, if_true, if_false, Nat.reduceEqDiff, reduceIte, t00, h0]
  repeat' (first | intro _ | refine And.intro ?_ ?_)
  all_goals first | omega | skip
  refine Rn_imp hR ?_
  rintro r2 T2 σ2 ⟨rfl, rfl, hr2, h02⟩
  simp only [s0_1616, sx_push, tf, List.length_cons, List.length_nil, Option.some.injEq, exists_eq_left', Nat.reduceAdd, Nat.reduceLeDiff, true_and, and_true, true_or, or_true, Int.zero_add, Nat.zero_le, eq_self, ne_eq, not_true_eq_false, not_false_eq_true, false_implies, true_implies, implies_true, b2i_0, b2i_1, b2i_01, up_sc, sc_at, sc_sc, ite_true, ite_false, if_true, if_false, Nat.reduceEqDiff, reduceIte]
  repeat' (first | intro _ | refine And.intro ?_ ?_)
  all_goals first | omega | contradiction | exact hK σ2 hr2 h02
theorem lw45 (hc : c < 100000) (h : Rel c σ) (i0 : 0 ≤ i) (i1 : i + 6 ≤ n) (hn : n ≤ 3072) (hs : ∀ j, inI (σ 0 j)) (hK : ∀ σ2, Rel (c + 1) σ2 → σ2 0 = σ 0 → Rn 0 1657 [some (vR 0), some (vR 1), some (vR 149), some (vI i)] [] (T0 n) σ2 K) : Rn 0 1621 [some (vR 0), some (vR 1), some (vR 149), some (vI i)] [] (T0 n) σ K := by
  simp only [s0_1621, s0_1622, sx_push, tf, List.length_cons, List.length_nil, Option.some.injEq, exists_eq_left', Nat.reduceAdd, Nat.reduceLeDiff, true_and, and_true, true_or, or_true, Int.zero_add, Nat.zero_le, eq_self, ne_eq, not_true_eq_false, not_false_eq_true, false_implies, true_implies, implies_true, b2i_0, b2i_1, b2i_01, up_sc, sc_at, sc_sc, ite_true, ite_false, if_true, if_false, Nat.reduceEqDiff, reduceIte, t00]
  repeat' (first | intro _ | refine And.intro ?_ ?_)
  all_goals first | omega | skip
  refine Rn_imp (Rn_k0 (cl45 hc σ h) t00.1) ?_
  rintro r T' σ1 ⟨⟨rfl, v, rfl, hR⟩, h0⟩
  simp only [s0_1625, s0_1626, sx_push, tf, List.length_cons, List.length_nil, Option.some.injEq, exists_eq_left', Nat.reduceAdd, Nat.reduceLeDiff, true_and, and_true, true_or, or_true, Int.zero_add, Nat.zero_le, eq_self, ne_eq, not_true_eq_false, not_false_eq_true, false_implies, true_implies, implies_true, b2i_0, b2i_1, b2i_01, up_sc, sc_at, sc_sc, ite_true, ite_false, if_true, if_false, Nat.reduceEqDiff, reduceIte, t00, h0]
  repeat' (first | intro _ | refine And.intro ?_ ?_)
  all_goals first | omega | skip
  refine Rn_imp hR ?_
  rintro r2 T2 σ2 ⟨rfl, rfl, hr2, h02⟩
  simp only [s0_1629, sx_push, tf, List.length_cons, List.length_nil, Option.some.injEq, exists_eq_left', Nat.reduceAdd, Nat.reduceLeDiff, true_and, and_true, true_or, or_true, Int.zero_add, Nat.zero_le, eq_self, ne_eq, not_true_eq_false, not_false_eq_true, false_implies, true_implies, implies_true, b2i_0, b2i_1, b2i_01, up_sc, sc_at, sc_sc, ite_true, ite_false, if_true, if_false, Nat.reduceEqDiff, reduceIte]
  repeat' (first | intro _ | refine And.intro ?_ ?_)
  all_goals first | omega | contradiction | exact hK σ2 hr2 h02
theorem lw46 (hc : c < 100000) (h : Rel c σ) (i0 : 0 ≤ i) (i1 : i + 6 ≤ n) (hn : n ≤ 3072) (hs : ∀ j, inI (σ 0 j)) (hK : ∀ σ2, Rel (c + 1) σ2 → σ2 0 = σ 0 → Rn 0 1657 [some (vR 0), some (vR 1), some (vR 149), some (vI i)] [] (T0 n) σ2 K) : Rn 0 1634 [some (vR 0), some (vR 1), some (vR 149), some (vI i)] [] (T0 n) σ K := by
  simp only [s0_1634, s0_1635, s0_1636, s0_1637, s0_1638, s0_1639, s0_1640, sx_push, tf, List.length_cons, List.length_nil, Option.some.injEq, exists_eq_left', Nat.reduceAdd, Nat.reduceLeDiff, true_and, and_true, true_or, or_true, Int.zero_add, Nat.zero_le, eq_self, ne_eq, not_true_eq_false, not_false_eq_true, false_implies, true_implies, implies_true, b2i_0, b2i_1, b2i_01, up_sc, sc_at, sc_sc, ite_true, ite_false, if_true, if_false, Nat.reduceEqDiff, reduceIte, t00]
  repeat' (first | intro _ | refine And.intro ?_ ?_)
  all_goals first | omega | skip
  refine Rn_imp (Rn_k0 (cl46  σ h) t00.1) ?_
  rintro r T' σ1 ⟨⟨rfl, v, rfl, hR⟩, h0⟩
  simp only [s0_1643, s0_1644, s0_1645, s0_1646, s0_1647, s0_1648, s0_1649, sx_push, tf, List.length_cons, List.length_nil, Option.some.injEq, exists_eq_left', Nat.reduceAdd, Nat.reduceLeDiff, true_and, and_true, true_or, or_true, Int.zero_add, Nat.zero_le, eq_self, ne_eq, not_true_eq_false, not_false_eq_true, false_implies, true_implies, implies_true, b2i_0, b2i_1, b2i_01, up_sc, sc_at, sc_sc, ite_true, ite_false, if_true, if_false, Nat.reduceEqDiff, reduceIte, t00, h0]
  repeat' (first | intro _ | refine And.intro ?_ ?_)
  all_goals first | omega | skip
  refine Rn_imp hR ?_
  rintro r2 T2 σ2 ⟨rfl, rfl, hr2, h02⟩
  simp only [s0_1652, sx_push, tf, List.length_cons, List.length_nil, Option.some.injEq, exists_eq_left', Nat.reduceAdd, Nat.reduceLeDiff, true_and, and_true, true_or, or_true, Int.zero_add, Nat.zero_le, eq_self, ne_eq, not_true_eq_false, not_false_eq_true, false_implies, true_implies, implies_true, b2i_0, b2i_1, b2i_01, up_sc, sc_at, sc_sc, ite_true, ite_false, if_true, if_false, Nat.reduceEqDiff, reduceIte]
  repeat' (first | intro _ | refine And.intro ?_ ?_)
  all_goals first | omega | contradiction | exact hK σ2 hr2 h02
end LW
