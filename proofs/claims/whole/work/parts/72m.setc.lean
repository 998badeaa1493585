/-! a text: names: the reference -/
def rfS (σ σ' : sxS) : Prop := (∀ q, q ≠ 149 → q ≠ 157 → q ≠ 158 → σ' q = σ q) ∧ ∀ j, j ≠ 13 → j ≠ 14 → j ≠ 15 → j ≠ 16 → j ≠ 18 → j ≠ 19 → σ' 149 j = σ 149 j
theorem rfS_tr {σ σ' σ'' : sxS} (h1 : rfS σ σ') (h2 : rfS σ' σ'') : rfS σ σ'' := ⟨fun q a b c => by rw [h2.1 q a b c, h1.1 q a b c], fun j a b c d e f => by rw [h2.2 j a b c d e f, h1.2 j a b c d e f]⟩
theorem rfS_0 {σ σ' : sxS} (h : rf0 σ σ') : rfS σ σ' := ⟨fun q a _ _ => h.1 q a, fun j a b c d _ _ => h.2 j a b c d⟩
theorem rfS_ok {σ σ' : sxS} {t : Int → Int} {L : Int} (h : rOk σ t L) (hf : rfS σ σ') : rOk σ' t L := by
  unfold rOk at h ⊢
  rw [hf.1 154 (by decide) (by decide) (by decide), hf.1 156 (by decide) (by decide) (by decide), hf.2 12 (by decide) (by decide) (by decide) (by decide) (by decide) (by decide)]
  exact h
/-- what the reference has read: c points as a row -/
def rSt (σ : sxS) (c : Int) (F : Int → Int) : Prop := σ 149 18 = c ∧ (0 ≤ c ∧ c ≤ 40) ∧ (∀ j, 0 ≤ j → j < 6 * c → σ 158 j = F (240 + j)) ∧ (∀ q, 0 ≤ q → q < c → σ 157 (3 * q) = F (40 + q) ∧ σ 157 (3 * q + 1) = F (80 + q) ∧ σ 157 (3 * q + 2) = F (120 + q)) ∧ ltr F
theorem rSt_0 {σ σ' : sxS} {c : Int} {F : Int → Int} (h : rSt σ c F) (hf : rf0 σ σ') : rSt σ' c F := by
  unfold rSt at h ⊢
  rw [hf.1 157 (by decide), hf.1 158 (by decide), hf.2 18 (by decide) (by decide) (by decide) (by decide)]
  exact h
section SC
variable {n : Nat} {σ : sxS} {K : Option sxV → sxT → sxS → Prop} {t : Int → Int} {L : Int}
theorem x189 (h : rOk σ t L) {s e i : Int} (hf : σ 149 14 = s) (he : σ 149 13 = e) (s0 : 0 ≤ s) (se : s ≤ e) (eL : e ≤ L) (hl : ∀ j, s ≤ j → j < e → sml (bt t L j)) (i0 : 0 ≤ i) (i6 : i ≤ 6) : Rn 189 0 [some (vR 149), some (vI i)] [] (T0 n) σ K ↔ K (some (vI (dgT (fun i => t (s + i)) (e - s) i))) (T0 n) σ := by
  refine Rn_iff fun K hK => ?_
  obtain ⟨r1, r2, r3, r4⟩ := h
  unfold dgT at hK
  by_cases y : i < e - s
  · rw [if_pos y] at hK
    have h1 := r3 (s + i) (by omega) (by omega)
    have h2 := hl (s + i) (by omega) (by omega)
    rw [bt_in (by omega) (by omega)] at h2
    unfold sml at h2
    simp only [s189_0, s189_1, s189_4, s189_5, s189_6, s189_7, s189_10, s189_13, s189_14, s189_17, s189_18, s189_21, s189_22, s189_23, s189_24, s189_26, s189_27, s189_30, s189_31, Int.reduceToNat, Int.reducePow, Nat.reducePow, Int.reduceLE, Int.reduceLT, Int.reduceNeg, Int.reduceEq, Int.reduceNe, Int.reduceAdd, Int.reduceSub, Int.reduceMul, and_self, sx_push, tf, List.length_cons, List.length_nil, Option.some.injEq, exists_eq_left', Nat.reduceAdd, Nat.reduceLeDiff, true_and, and_true, true_or, or_true, Int.zero_add, Nat.zero_le, eq_self, ne_eq, not_true_eq_false, not_false_eq_true, false_implies, true_implies, implies_true, b2i_0, b2i_1, b2i_01, up_sc, sc_at, sc_sc, ite_true, ite_false, if_true, if_false, Nat.reduceEqDiff, reduceIte, hf, he, h1]
    repeat' (first | intro _ | refine And.intro ?_ ?_)
    all_goals first | omega | exact hK
  · rw [if_neg y] at hK
    simp only [s189_0, s189_1, s189_4, s189_5, s189_6, s189_7, s189_10, s189_13, s189_14, s189_17, s189_18, s189_21, s189_22, s189_23, s189_24, s189_26, s189_27, s189_30, s189_31, Int.reduceToNat, Int.reducePow, Nat.reducePow, Int.reduceLE, Int.reduceLT, Int.reduceNeg, Int.reduceEq, Int.reduceNe, Int.reduceAdd, Int.reduceSub, Int.reduceMul, and_self, sx_push, tf, List.length_cons, List.length_nil, Option.some.injEq, exists_eq_left', Nat.reduceAdd, Nat.reduceLeDiff, true_and, and_true, true_or, or_true, Int.zero_add, Nat.zero_le, eq_self, ne_eq, not_true_eq_false, not_false_eq_true, false_implies, true_implies, implies_true, b2i_0, b2i_1, b2i_01, up_sc, sc_at, sc_sc, ite_true, ite_false, if_true, if_false, Nat.reduceEqDiff, reduceIte, hf, he]
    repeat' (first | intro _ | refine And.intro ?_ ?_)
    all_goals first | omega | exact hK
theorem x188i {F : Int → Int} {c s e q : Int} (h : rOk σ t L) (hS : rSt σ c F) (hf : σ 149 14 = s) (he : σ 149 13 = e) (s0 : 0 ≤ s) (se : s ≤ e) (eL : e ≤ L) (hl : ∀ j, s ≤ j → j < e → sml (bt t L j)) (q0 : 0 ≤ q) (q1 : q < c) : ∀ (k : Nat) (i : Int) (b : Bool), i + k = 6 → 0 ≤ i → Rn 188 120 [some (vR 149), some (vI q), some (vI (b2i ((b && eqJ F (fun i => t (s + i)) (e - s) q k i) = true))), some (vI 6)] [] (T0 n) σ K → Rn 188 79 [some (vR 149), some (vI q), some (vI (b2i (b = true))), some (vI i)] [] (T0 n) σ K := by
  intro k
  induction k with
  | zero =>
    intro i b hi i0 hK
    obtain rfl : i = 6 := by omega
    unfold eqJ at hK
    rw [Bool.and_true] at hK
    rw [s188_79]
    simp only [s188_80, s188_82, Int.reduceToNat, Int.reducePow, Nat.reducePow, Int.reduceLE, Int.reduceLT, Int.reduceNeg, Int.reduceEq, Int.reduceNe, Int.reduceAdd, Int.reduceSub, Int.reduceMul, and_self, sx_push, tf, List.length_cons, List.length_nil, Option.some.injEq, exists_eq_left', Nat.reduceAdd, Nat.reduceLeDiff, true_and, and_true, true_or, or_true, Int.zero_add, Nat.zero_le, eq_self, ne_eq, not_true_eq_false, not_false_eq_true, false_implies, true_implies, implies_true, b2i_0, b2i_1, b2i_01, up_sc, sc_at, sc_sc, ite_true, ite_false, if_true, if_false, Nat.reduceEqDiff, reduceIte]
    repeat' (first | intro _ | refine And.intro ?_ ?_)
    all_goals first | omega | exact hK
  | succ k ih =>
    intro i b hi i0 hK
    rw [s188_79]
    unfold eqJ at hK
    have c40 := hS.2.1
    cases b with
    | false =>
      have := ih (i + 1) false (by omega) (by omega) (by simpa using hK)
      rw [b2i_f (by decide)] at this ⊢
      simp only [s188_80, s188_82, s188_85, s188_86, s188_112, s188_113, s188_114, s188_117, Int.reduceToNat, Int.reducePow, Nat.reducePow, Int.reduceLE, Int.reduceLT, Int.reduceNeg, Int.reduceEq, Int.reduceNe, Int.reduceAdd, Int.reduceSub, Int.reduceMul, and_self, sx_push, tf, List.length_cons, List.length_nil, Option.some.injEq, exists_eq_left', Nat.reduceAdd, Nat.reduceLeDiff, true_and, and_true, true_or, or_true, Int.zero_add, Nat.zero_le, eq_self, ne_eq, not_true_eq_false, not_false_eq_true, false_implies, true_implies, implies_true, b2i_0, b2i_1, b2i_01, up_sc, sc_at, sc_sc, ite_true, ite_false, if_true, if_false, Nat.reduceEqDiff, reduceIte]
      repeat' (first | intro _ | refine And.intro ?_ ?_)
      all_goals first | omega | exact this
    | true =>
      rw [b2i_t rfl]
      have w := fun K => x189 (n := n) (K := K) h hf he s0 se eL hl (i := i) i0 (by omega)
      have g : σ 158 (6 * q + i) = F (240 + 6 * q + i) := by rw [hS.2.2.1 (6 * q + i) (by omega) (by omega), Int.add_assoc]
      by_cases y : F (240 + 6 * q + i) = dgT (fun i => t (s + i)) (e - s) i
      · rw [if_pos y] at hK
        have := ih (i + 1) true (by omega) (by omega) hK
        rw [b2i_t rfl] at this
        simp only [s188_80, s188_82, s188_85, s188_86, s188_89, s188_90, s188_93, s188_95, s188_96, s188_97, s188_98, s188_99, s188_100, s188_101, s188_102, s188_105, s188_108, s188_109, s188_112, s188_113, s188_114, s188_117, Int.reduceToNat, Int.reducePow, Nat.reducePow, Int.reduceLE, Int.reduceLT, Int.reduceNeg, Int.reduceEq, Int.reduceNe, Int.reduceAdd, Int.reduceSub, Int.reduceMul, and_self, sx_push, tf, List.length_cons, List.length_nil, Option.some.injEq, exists_eq_left', Nat.reduceAdd, Nat.reduceLeDiff, true_and, and_true, true_or, or_true, Int.zero_add, Nat.zero_le, eq_self, ne_eq, not_true_eq_false, not_false_eq_true, false_implies, true_implies, implies_true, b2i_0, b2i_1, b2i_01, up_sc, sc_at, sc_sc, ite_true, ite_false, if_true, if_false, Nat.reduceEqDiff, reduceIte, w, g, y]
        repeat' (first | intro _ | refine And.intro ?_ ?_)
        all_goals first | omega | assumption
      · rw [if_neg y] at hK
        have := ih (i + 1) false (by omega) (by omega) (by simpa using hK)
        rw [b2i_f (by decide)] at this
        simp only [s188_80, s188_82, s188_85, s188_86, s188_89, s188_90, s188_93, s188_95, s188_96, s188_97, s188_98, s188_99, s188_100, s188_101, s188_102, s188_105, s188_108, s188_109, s188_112, s188_113, s188_114, s188_117, Int.reduceToNat, Int.reducePow, Nat.reducePow, Int.reduceLE, Int.reduceLT, Int.reduceNeg, Int.reduceEq, Int.reduceNe, Int.reduceAdd, Int.reduceSub, Int.reduceMul, and_self, sx_push, tf, List.length_cons, List.length_nil, Option.some.injEq, exists_eq_left', Nat.reduceAdd, Nat.reduceLeDiff, true_and, and_true, true_or, or_true, Int.zero_add, Nat.zero_le, eq_self, ne_eq, not_true_eq_false, not_false_eq_true, false_implies, true_implies, implies_true, b2i_0, b2i_1, b2i_01, up_sc, sc_at, sc_sc, ite_true, ite_false, if_true, if_false, Nat.reduceEqDiff, reduceIte, w, g]
        repeat' (first | intro _ | refine And.intro ?_ ?_)
        all_goals first | omega | contradiction | assumption
theorem eqS {F : Int → Int} (hl : ltr F) {t : Int → Int} {L s e q : Int} (q0 : 0 ≤ q) (q1 : q < 40) (s0 : 0 ≤ s) (he : e - s ≤ 6) (ht : ∀ j, s ≤ j → j < e → sml (bt t L j)) (eL : e ≤ L) : eqJ F (fun i => t (s + i)) (e - s) q 6 0 = true ↔ nmF F q = nmD (fun i => t (s + i)) (e - s) :=
  eq6 hl q0 q1 he (fun j j0 j1 => by
    have := ht (s + j) (by omega) (by omega)
    rw [bt_in (by omega) (by omega)] at this
    exact this)
theorem x188l {F : Int → Int} {c s e : Int} (h : rOk σ t L) (hS : rSt σ c F) (hf : σ 149 14 = s) (he : σ 149 13 = e) (s0 : 0 ≤ s) (se : s ≤ e) (eL : e ≤ L) (hl : ∀ j, s ≤ j → j < e → sml (bt t L j)) (e6 : e - s ≤ 6) (h0 : σ 149 15 = 0) : ∀ (k : Nat) (q : Int) (u v : Option sxV), q + k = c → 0 ≤ q → (∀ r, q ≤ r → r < c → nmF F r ≠ nmD (fun i => t (s + i)) (e - s)) → (∀ u v, Rn 188 139 [some (vR 149), some (vI c), u, v] [] (T0 n) σ K) → Rn 188 60 [some (vR 149), some (vI q), u, v] [] (T0 n) σ K := by
  intro k
  have c40 := hS.2.1
  have h18 := hS.1
  induction k with
  | zero =>
    intro q u v hq q0 hn hK
    obtain rfl : q = c := by omega
    have hK := hK u v
    rw [s188_60]
    simp only [s188_61, s188_62, s188_65, Int.reduceToNat, Int.reducePow, Nat.reducePow, Int.reduceLE, Int.reduceLT, Int.reduceNeg, Int.reduceEq, Int.reduceNe, Int.reduceAdd, Int.reduceSub, Int.reduceMul, and_self, sx_push, tf, List.length_cons, List.length_nil, Option.some.injEq, exists_eq_left', Nat.reduceAdd, Nat.reduceLeDiff, true_and, and_true, true_or, or_true, Int.zero_add, Nat.zero_le, eq_self, ne_eq, not_true_eq_false, not_false_eq_true, false_implies, true_implies, implies_true, b2i_0, b2i_1, b2i_01, up_sc, sc_at, sc_sc, ite_true, ite_false, if_true, if_false, Nat.reduceEqDiff, reduceIte, h18]
    repeat' (first | intro _ | refine And.intro ?_ ?_)
    all_goals first | omega | exact hK
  | succ k ih =>
    intro q u v hq q0 hn hK
    have y : ¬ eqJ F (fun i => t (s + i)) (e - s) q 6 0 = true := fun z => hn q (by omega) (by omega) ((eqS hS.2.2.2.2 q0 (by omega) s0 e6 hl eL).mp z)
    have main : Rn 188 79 [some (vR 149), some (vI q), some (vI (b2i (true = true))), some (vI 0)] [] (T0 n) σ K := by
      refine x188i h hS hf he s0 se eL hl q0 (by omega) 6 0 true (by omega) (by omega) ?_
      have nx := ih (q + 1) (some (vI 0)) (some (vI 6)) (by omega) (by omega) (fun r r0 r1 => hn r (by omega) r1) hK
      rw [Bool.true_and, b2i_f y]
      simp only [s188_120, s188_121, s188_133, s188_136, Int.reduceToNat, Int.reducePow, Nat.reducePow, Int.reduceLE, Int.reduceLT, Int.reduceNeg, Int.reduceEq, Int.reduceNe, Int.reduceAdd, Int.reduceSub, Int.reduceMul, and_self, sx_push, tf, List.length_cons, List.length_nil, Option.some.injEq, exists_eq_left', Nat.reduceAdd, Nat.reduceLeDiff, true_and, and_true, true_or, or_true, Int.zero_add, Nat.zero_le, eq_self, ne_eq, not_true_eq_false, not_false_eq_true, false_implies, true_implies, implies_true, b2i_0, b2i_1, b2i_01, up_sc, sc_at, sc_sc, ite_true, ite_false, if_true, if_false, Nat.reduceEqDiff, reduceIte]
      repeat' (first | intro _ | refine And.intro ?_ ?_)
      all_goals first | omega | exact nx
    rw [b2i_t rfl] at main
    rw [s188_60]
    simp only [s188_61, s188_62, s188_65, s188_68, s188_69, s188_72, s188_75, s188_76, s188_77, s188_78, Int.reduceToNat, Int.reducePow, Nat.reducePow, Int.reduceLE, Int.reduceLT, Int.reduceNeg, Int.reduceEq, Int.reduceNe, Int.reduceAdd, Int.reduceSub, Int.reduceMul, and_self, sx_push, tf, List.length_cons, List.length_nil, Option.some.injEq, exists_eq_left', Nat.reduceAdd, Nat.reduceLeDiff, true_and, and_true, true_or, or_true, Int.zero_add, Nat.zero_le, eq_self, ne_eq, not_true_eq_false, not_false_eq_true, false_implies, true_implies, implies_true, b2i_0, b2i_1, b2i_01, up_sc, sc_at, sc_sc, ite_true, ite_false, if_true, if_false, Nat.reduceEqDiff, reduceIte, h18, x178, h0]
    repeat' (first | intro _ | refine And.intro ?_ ?_)
    all_goals first | omega | exact main
theorem x188d {F : Int → Int} {c s e : Int} (h : rOk σ t L) (hS : rSt σ c F) (hf : σ 149 14 = s) (he : σ 149 13 = e) (s0 : 0 ≤ s) (se : s ≤ e) (eL : e ≤ L) (hl : ∀ j, s ≤ j → j < e → sml (bt t L j)) (e6 : e - s ≤ 6) (h0 : σ 149 15 = 0) (hK : ∀ u v w, Rn 188 139 [some (vR 149), u, v, w] [] (T0 n) (sc σ 149 (up1 (up1 (σ 149) 15 3) 16 s)) K) : ∀ (k : Nat) (q : Int) (u v : Option sxV), q + k = c → 0 ≤ q → (∃ r, q ≤ r ∧ r < c ∧ nmF F r = nmD (fun i => t (s + i)) (e - s)) → Rn 188 60 [some (vR 149), some (vI q), u, v] [] (T0 n) σ K := by
  intro k
  have c40 := hS.2.1
  have h18 := hS.1
  induction k with
  | zero =>
    intro q u v hq q0 hn
    obtain ⟨r, r0, r1, r2⟩ := hn
    omega
  | succ k ih =>
    intro q u v hq q0 hn
    have ei := eqS hS.2.2.2.2 q0 (by omega) s0 e6 hl eL
    have main : Rn 188 79 [some (vR 149), some (vI q), some (vI (b2i (true = true))), some (vI 0)] [] (T0 n) σ K := by
      refine x188i h hS hf he s0 se eL hl q0 (by omega) 6 0 true (by omega) (by omega) ?_
      rw [Bool.true_and]
      by_cases y : eqJ F (fun i => t (s + i)) (e - s) q 6 0 = true
      · rw [b2i_t y]
        have w183 := fun K => x183y (n := n) (σ := σ) (K := K) (k := 3) (a := s) h0
        have nx := hK (some (vI (q + 1))) (some (vI 1)) (some (vI 6))
        have g18 : up1 (up1 (σ 149) 15 3) 16 s 18 = c := by rw [up1_n (by decide), up1_n (by decide), h18]
        have g15 : up1 (up1 (σ 149) 15 3) 16 s 15 = 3 := by rw [up1_n (by decide), up1_s]
        have nx2 : Rn 188 60 [some (vR 149), some (vI (q + 1)), some (vI 1), some (vI 6)] [] (T0 n) (sc σ 149 (up1 (up1 (σ 149) 15 3) 16 s)) K := by
          rw [s188_60]
          simp only [s188_61, s188_62, s188_65, s188_68, s188_69, s188_72, Int.reduceToNat, Int.reducePow, Nat.reducePow, Int.reduceLE, Int.reduceLT, Int.reduceNeg, Int.reduceEq, Int.reduceNe, Int.reduceAdd, Int.reduceSub, Int.reduceMul, and_self, sx_push, tf, List.length_cons, List.length_nil, Option.some.injEq, exists_eq_left', Nat.reduceAdd, Nat.reduceLeDiff, true_and, and_true, true_or, or_true, Int.zero_add, Nat.zero_le, eq_self, ne_eq, not_true_eq_false, not_false_eq_true, false_implies, true_implies, implies_true, b2i_0, b2i_1, b2i_01, up_sc, sc_at, sc_sc, ite_true, ite_false, if_true, if_false, Nat.reduceEqDiff, reduceIte, g18, x178, g15]
          repeat' (first | intro _ | refine And.intro ?_ ?_)
          all_goals first | omega | exact nx
        simp only [s188_120, s188_121, s188_124, s188_125, s188_126, s188_127, s188_130, s188_133, s188_136, Int.reduceToNat, Int.reducePow, Nat.reducePow, Int.reduceLE, Int.reduceLT, Int.reduceNeg, Int.reduceEq, Int.reduceNe, Int.reduceAdd, Int.reduceSub, Int.reduceMul, and_self, sx_push, tf, List.length_cons, List.length_nil, Option.some.injEq, exists_eq_left', Nat.reduceAdd, Nat.reduceLeDiff, true_and, and_true, true_or, or_true, Int.zero_add, Nat.zero_le, eq_self, ne_eq, not_true_eq_false, not_false_eq_true, false_implies, true_implies, implies_true, b2i_0, b2i_1, b2i_01, up_sc, sc_at, sc_sc, ite_true, ite_false, if_true, if_false, Nat.reduceEqDiff, reduceIte, hf, w183]
        repeat' (first | intro _ | refine And.intro ?_ ?_)
        all_goals first | omega | exact nx2
      · rw [b2i_f y]
        have nx := ih (q + 1) (some (vI 0)) (some (vI 6)) (by omega) (by omega) (by
          obtain ⟨r, r0, r1, r2⟩ := hn
          refine ⟨r, ?_, r1, r2⟩
          by_cases z : r = q
          · rw [z] at r2; exact absurd (ei.mpr r2) y
          · omega)
        simp only [s188_120, s188_121, s188_133, s188_136, Int.reduceToNat, Int.reducePow, Nat.reducePow, Int.reduceLE, Int.reduceLT, Int.reduceNeg, Int.reduceEq, Int.reduceNe, Int.reduceAdd, Int.reduceSub, Int.reduceMul, and_self, sx_push, tf, List.length_cons, List.length_nil, Option.some.injEq, exists_eq_left', Nat.reduceAdd, Nat.reduceLeDiff, true_and, and_true, true_or, or_true, Int.zero_add, Nat.zero_le, eq_self, ne_eq, not_true_eq_false, not_false_eq_true, false_implies, true_implies, implies_true, b2i_0, b2i_1, b2i_01, up_sc, sc_at, sc_sc, ite_true, ite_false, if_true, if_false, Nat.reduceEqDiff, reduceIte]
        repeat' (first | intro _ | refine And.intro ?_ ?_)
        all_goals first | omega | exact nx
    rw [b2i_t rfl] at main
    rw [s188_60]
    simp only [s188_61, s188_62, s188_65, s188_68, s188_69, s188_72, s188_75, s188_76, s188_77, s188_78, Int.reduceToNat, Int.reducePow, Nat.reducePow, Int.reduceLE, Int.reduceLT, Int.reduceNeg, Int.reduceEq, Int.reduceNe, Int.reduceAdd, Int.reduceSub, Int.reduceMul, and_self, sx_push, tf, List.length_cons, List.length_nil, Option.some.injEq, exists_eq_left', Nat.reduceAdd, Nat.reduceLeDiff, true_and, and_true, true_or, or_true, Int.zero_add, Nat.zero_le, eq_self, ne_eq, not_true_eq_false, not_false_eq_true, false_implies, true_implies, implies_true, b2i_0, b2i_1, b2i_01, up_sc, sc_at, sc_sc, ite_true, ite_false, if_true, if_false, Nat.reduceEqDiff, reduceIte, h18, x178, h0]
    repeat' (first | intro _ | refine And.intro ?_ ?_)
    all_goals first | omega | exact main
theorem x188w {c s e : Int} {u v : Option sxV} (s0 : 0 ≤ s) (se : s ≤ e) (eL : e ≤ L) (hl : ∀ j, s ≤ j → j < e → sml (bt t L j)) (c0 : 0 ≤ c) (c1 : c < 40) : ∀ (k : Nat) (i : Int) (σ : sxS), rOk σ t L → σ 149 18 = c → σ 149 14 = s → σ 149 13 = e → σ 149 15 = 0 → i + k = 6 → 0 ≤ i → (∀ σ', (∀ q, q ≠ 158 → σ' q = σ q) → (∀ j, σ' 158 j = if 6 * c + i ≤ j ∧ j < 6 * c + 6 then dgT (fun i => t (s + i)) (e - s) (j - 6 * c) else σ 158 j) → K none (T0 n) σ') → Rn 188 141 [some (vR 149), some (vI i), u, v] [] (T0 n) σ K := by
  intro k
  induction k with
  | zero =>
    intro i σ h h18 hf he h0 hi i0 hK
    obtain rfl : i = 6 := by omega
    have hK := hK σ (fun q _ => rfl) (fun j => by rw [if_neg (by omega)])
    rw [s188_141]
    simp only [s188_142, s188_144, s188_179, Int.reduceToNat, Int.reducePow, Nat.reducePow, Int.reduceLE, Int.reduceLT, Int.reduceNeg, Int.reduceEq, Int.reduceNe, Int.reduceAdd, Int.reduceSub, Int.reduceMul, and_self, sx_push, tf, List.length_cons, List.length_nil, Option.some.injEq, exists_eq_left', Nat.reduceAdd, Nat.reduceLeDiff, true_and, and_true, true_or, or_true, Int.zero_add, Nat.zero_le, eq_self, ne_eq, not_true_eq_false, not_false_eq_true, false_implies, true_implies, implies_true, b2i_0, b2i_1, b2i_01, up_sc, sc_at, sc_sc, ite_true, ite_false, if_true, if_false, Nat.reduceEqDiff, reduceIte]
    repeat' (first | intro _ | refine And.intro ?_ ?_)
    all_goals first | omega | exact hK
  | succ k ih =>
    intro i σ h h18 hf he h0 hi i0 hK
    have w := fun K => x189 (n := n) (K := K) h hf he s0 se eL hl (i := i) i0 (by omega)
    have g149 : ∀ g, sc σ 158 g 149 = σ 149 := fun g => by rw [sc_at, if_neg (by decide)]
    have nx := ih (i + 1) (sc σ 158 (up1 (σ 158) (6 * c + i) (dgT (fun i => t (s + i)) (e - s) i))) (by
      obtain ⟨r1, r2, r3, r4⟩ := h
      refine ⟨by rw [g149]; exact r1, r2, ?_, ?_⟩
      · rw [sc_at, if_neg (by decide)]; exact r3
      · rw [sc_at, if_neg (by decide)]; exact r4) (by rw [g149]; exact h18) (by rw [g149]; exact hf) (by rw [g149]; exact he) (by rw [g149]; exact h0) (by omega) (by omega) (fun σ' f1 f2 => hK σ' (fun q hq => by rw [f1 q hq, sc_at, if_neg hq]) (fun j => by
        rw [f2 j, sc_at, if_pos rfl]
        by_cases y : j = 6 * c + i
        · rw [y, if_neg (by omega), up1_s, if_pos (by omega), show 6 * c + i - 6 * c = i by omega]
        · rw [up1_n y]
          by_cases z : 6 * c + i ≤ j ∧ j < 6 * c + 6
          · rw [if_pos (by omega), if_pos z]
          · rw [if_neg (by omega), if_neg z]))
    rw [s188_141]
    simp only [s188_142, s188_144, s188_147, s188_148, s188_151, s188_154, s188_155, s188_158, s188_160, s188_161, s188_164, s188_165, s188_166, s188_167, s188_168, s188_169, s188_172, s188_173, s188_176, Int.reduceToNat, Int.reducePow, Nat.reducePow, Int.reduceLE, Int.reduceLT, Int.reduceNeg, Int.reduceEq, Int.reduceNe, Int.reduceAdd, Int.reduceSub, Int.reduceMul, and_self, sx_push, tf, List.length_cons, List.length_nil, Option.some.injEq, exists_eq_left', Nat.reduceAdd, Nat.reduceLeDiff, true_and, and_true, true_or, or_true, Int.zero_add, Nat.zero_le, eq_self, ne_eq, not_true_eq_false, not_false_eq_true, false_implies, true_implies, implies_true, b2i_0, b2i_1, b2i_01, up_sc, sc_at, sc_sc, ite_true, ite_false, if_true, if_false, Nat.reduceEqDiff, reduceIte, x178, h0, h18, w]
    repeat' (first | intro _ | refine And.intro ?_ ?_)
    all_goals first | omega | exact nx
theorem x188x {u v w : Option sxV} (h0 : σ 149 15 ≠ 0) (hK : K none (T0 n) σ) : Rn 188 139 [some (vR 149), u, v, w] [] (T0 n) σ K := by
  have nx : Rn 188 141 [some (vR 149), some (vI 0), v, w] [] (T0 n) σ K := by
    rw [s188_141]
    simp only [s188_142, s188_144, s188_147, s188_148, s188_151, s188_179, Int.reduceToNat, Int.reducePow, Nat.reducePow, Int.reduceLE, Int.reduceLT, Int.reduceNeg, Int.reduceEq, Int.reduceNe, Int.reduceAdd, Int.reduceSub, Int.reduceMul, and_self, sx_push, tf, List.length_cons, List.length_nil, Option.some.injEq, exists_eq_left', Nat.reduceAdd, Nat.reduceLeDiff, true_and, and_true, true_or, or_true, Int.zero_add, Nat.zero_le, eq_self, ne_eq, not_true_eq_false, not_false_eq_true, false_implies, true_implies, implies_true, b2i_0, b2i_1, b2i_01, up_sc, sc_at, sc_sc, ite_true, ite_false, if_true, if_false, Nat.reduceEqDiff, reduceIte, x178]
    repeat' (first | intro _ | refine And.intro ?_ ?_)
    all_goals first | omega | contradiction | exact hK
  simp only [s188_139, s188_140, Int.reduceToNat, Int.reducePow, Nat.reducePow, Int.reduceLE, Int.reduceLT, Int.reduceNeg, Int.reduceEq, Int.reduceNe, Int.reduceAdd, Int.reduceSub, Int.reduceMul, and_self, sx_push, tf, List.length_cons, List.length_nil, Option.some.injEq, exists_eq_left', Nat.reduceAdd, Nat.reduceLeDiff, true_and, and_true, true_or, or_true, Int.zero_add, Nat.zero_le, eq_self, ne_eq, not_true_eq_false, not_false_eq_true, false_implies, true_implies, implies_true, b2i_0, b2i_1, b2i_01, up_sc, sc_at, sc_sc, ite_true, ite_false, if_true, if_false, Nat.reduceEqDiff, reduceIte]
  repeat' (first | intro _ | refine And.intro ?_ ?_)
  all_goals first | omega | exact nx
theorem x188y {v w : Option sxV} {c : Int} (h0 : σ 149 15 ≠ 0) (h18 : σ 149 18 = c) (c0 : 0 ≤ c) (c1 : c ≤ 40) (hK : K none (T0 n) σ) : Rn 188 58 [some (vR 149), none, v, w] [] (T0 n) σ K := by
  have n1 : Rn 188 139 [some (vR 149), some (vI 0), v, w] [] (T0 n) σ K := x188x h0 hK
  have nx : Rn 188 60 [some (vR 149), some (vI 0), v, w] [] (T0 n) σ K := by
    rw [s188_60]
    simp only [s188_61, s188_62, s188_65, s188_68, s188_69, s188_72, Int.reduceToNat, Int.reducePow, Nat.reducePow, Int.reduceLE, Int.reduceLT, Int.reduceNeg, Int.reduceEq, Int.reduceNe, Int.reduceAdd, Int.reduceSub, Int.reduceMul, and_self, sx_push, tf, List.length_cons, List.length_nil, Option.some.injEq, exists_eq_left', Nat.reduceAdd, Nat.reduceLeDiff, true_and, and_true, true_or, or_true, Int.zero_add, Nat.zero_le, eq_self, ne_eq, not_true_eq_false, not_false_eq_true, false_implies, true_implies, implies_true, b2i_0, b2i_1, b2i_01, up_sc, sc_at, sc_sc, ite_true, ite_false, if_true, if_false, Nat.reduceEqDiff, reduceIte, x178, h18]
    repeat' (first | intro _ | refine And.intro ?_ ?_)
    all_goals first | omega | contradiction | exact n1
  simp only [s188_58, s188_59, Int.reduceToNat, Int.reducePow, Nat.reducePow, Int.reduceLE, Int.reduceLT, Int.reduceNeg, Int.reduceEq, Int.reduceNe, Int.reduceAdd, Int.reduceSub, Int.reduceMul, and_self, sx_push, tf, List.length_cons, List.length_nil, Option.some.injEq, exists_eq_left', Nat.reduceAdd, Nat.reduceLeDiff, true_and, and_true, true_or, or_true, Int.zero_add, Nat.zero_le, eq_self, ne_eq, not_true_eq_false, not_false_eq_true, false_implies, true_implies, implies_true, b2i_0, b2i_1, b2i_01, up_sc, sc_at, sc_sc, ite_true, ite_false, if_true, if_false, Nat.reduceEqDiff, reduceIte]
  repeat' (first | intro _ | refine And.intro ?_ ?_)
  all_goals first | omega | exact nx
theorem x188g (h : rOk σ t L) {a c e : Int} {F F' : Int → Int} (ha : σ 149 13 = a) (a0 : 0 ≤ a) (a1 : a ≤ L) (h0 : σ 149 15 = 0) (hw : wP t L a) (hS : rSt σ c F) (c1 : c < 40) (hG : nmG t L c F a F' e) (hK : ∀ σ', (∀ q, q ≠ 149 → q ≠ 158 → σ' q = σ q) → (∀ j, j ≠ 13 → j ≠ 14 → σ' 149 j = σ 149 j) → σ' 149 13 = e → (∀ j, 0 ≤ j → j < 6 * c + 6 → σ' 158 j = F' (240 + j)) → ltr F' → K none (T0 n) σ') : Rn 188 0 [some (vR 149), none, none, none] [] (T0 n) σ K := by
  have r2 := h.2.1
  have k1 := (skF_in (t := t) (L := L) 1600 a a0 a1 (by omega)).1
  have c40 := hS.2.1
  unfold nmG at hG
  have go : Rn 177 0 [some (vR 149)] [] (T0 n) σ (fun r T' σ' => Rn 188 4 [some (vR 149), none, none, none] (sx_push r []) T' σ' K) := by
    refine x177f h ha a0 a1 h0 hw rfl (fun y σ1 f1 f2 f3 f4 f5 => ?_) (fun y => absurd hG.1 y)
    generalize skF t L 1600 a = s at *
    obtain ⟨g1, g2, g3, g4, g5, g6⟩ := hG
    obtain ⟨l1, l2, l3⟩ := ltF_in (t := t) (L := L) 1600 s (by omega) (by omega) (by omega)
    have R1 := rf0_ok h f1
    have S1 := rSt_0 hS f1
    have ow := fun K => x184 (n := n) (K := K) R1 f3 f2 (by omega) (by omega)
    rw [← g3] at f2 l1 l2 l3
    have fin : Rn 188 60 [some (vR 149), some (vI 0), none, none] [] (T0 n) σ1 K := by
      refine x188l R1 S1 f3 f2 (by omega) l1.1 (by omega) l2 g4 f4 c.toNat 0 none none (by omega) (by omega) (fun r r0 r1 => g5 r r0 r1) (fun u v => ?_)
      have st : Rn 188 141 [some (vR 149), some (vI 0), u, v] [] (T0 n) σ1 K := by
        refine x188w (by omega) l1.1 (by omega) l2 c40.1 c1 6 0 σ1 R1 S1.1 f3 f2 f4 (by omega) (by omega) (fun σ2 m1 m2 => ?_)
        refine hK σ2 (fun q q1 q2 => by rw [m1 q q2, f1.1 q q1]) (fun j j1 j2 => ?_) (by rw [m1 149 (by decide), f2]) (fun j j0 j1 => ?_) ?_
        · rw [m1 149 (by decide)]
          by_cases z5 : j = 15
          · rw [z5, f4, h0]
          · by_cases z6 : j = 16
            · rw [z6, f5]
            · exact f1.2 j j1 j2 z5 z6
        · rw [m2 j, g6]
          unfold nmSt
          by_cases z : 6 * c + 0 ≤ j ∧ j < 6 * c + 6
          · rw [if_pos z, if_pos (by omega), show 240 + j - (240 + 6 * c) = j - 6 * c by omega]
          · rw [if_neg z, if_neg (by omega)]; exact S1.2.2.1 j j0 (by omega)
        · rw [g6]
          intro p k p0 p1 k0 k5
          by_cases z : p = c
          · rw [z, nmSt_c k0 k5]
            unfold dgT
            by_cases z2 : k < e - s
            · have := l2 (s + k) (by omega) (by omega)
              rw [bt_in (by omega) (by omega)] at this
              unfold sml at this
              rw [if_pos z2]
              show 0 ≤ t (s + k) - 96 ∧ t (s + k) - 96 ≤ 26
              omega
            · rw [if_neg z2]; omega
          · rw [nmSt_o (by omega)]; exact hS.2.2.2.2 p k p0 p1 k0 k5
      simp only [s188_139, s188_140, Int.reduceToNat, Int.reducePow, Nat.reducePow, Int.reduceLE, Int.reduceLT, Int.reduceNeg, Int.reduceEq, Int.reduceNe, Int.reduceAdd, Int.reduceSub, Int.reduceMul, and_self, sx_push, tf, List.length_cons, List.length_nil, Option.some.injEq, exists_eq_left', Nat.reduceAdd, Nat.reduceLeDiff, true_and, and_true, true_or, or_true, Int.zero_add, Nat.zero_le, eq_self, ne_eq, not_true_eq_false, not_false_eq_true, false_implies, true_implies, implies_true, b2i_0, b2i_1, b2i_01, up_sc, sc_at, sc_sc, ite_true, ite_false, if_true, if_false, Nat.reduceEqDiff, reduceIte]
      repeat' (first | intro _ | refine And.intro ?_ ?_)
      all_goals first | omega | exact st
    have f2' : σ1 149 13 = e := f2
    simp only [s188_4, s188_5, s188_8, s188_11, s188_12, s188_13, s188_16, s188_17, s188_32, s188_33, s188_36, s188_37, s188_40, s188_41, s188_43, s188_58, s188_59, Int.reduceToNat, Int.reducePow, Nat.reducePow, Int.reduceLE, Int.reduceLT, Int.reduceNeg, Int.reduceEq, Int.reduceNe, Int.reduceAdd, Int.reduceSub, Int.reduceMul, and_self, sx_push, tf, List.length_cons, List.length_nil, Option.some.injEq, exists_eq_left', Nat.reduceAdd, Nat.reduceLeDiff, true_and, and_true, true_or, or_true, Int.zero_add, Nat.zero_le, eq_self, ne_eq, not_true_eq_false, not_false_eq_true, false_implies, true_implies, implies_true, b2i_0, b2i_1, b2i_01, up_sc, sc_at, sc_sc, ite_true, ite_false, if_true, if_false, Nat.reduceEqDiff, reduceIte, x178, f4, ow, g2, f2', f3]
    repeat' (first | intro _ | refine And.intro ?_ ?_)
    all_goals first | omega | exact fin
  simp only [s188_0, s188_1, Int.reduceToNat, Int.reducePow, Nat.reducePow, Int.reduceLE, Int.reduceLT, Int.reduceNeg, Int.reduceEq, Int.reduceNe, Int.reduceAdd, Int.reduceSub, Int.reduceMul, and_self, sx_push, tf, List.length_cons, List.length_nil, Option.some.injEq, exists_eq_left', Nat.reduceAdd, Nat.reduceLeDiff, true_and, and_true, true_or, or_true, Int.zero_add, Nat.zero_le, eq_self, ne_eq, not_true_eq_false, not_false_eq_true, false_implies, true_implies, implies_true, b2i_0, b2i_1, b2i_01, up_sc, sc_at, sc_sc, ite_true, ite_false, if_true, if_false, Nat.reduceEqDiff, reduceIte]
  repeat' (first | intro _ | refine And.intro ?_ ?_)
  all_goals first | omega | exact go
theorem x188b (h : rOk σ t L) {a c k p : Int} {F : Int → Int} (ha : σ 149 13 = a) (a0 : 0 ≤ a) (a1 : a ≤ L) (h0 : σ 149 15 = 0) (hw : wP t L a) (hS : rSt σ c F) (c1 : c < 40) (hB : nmB t L c F a k p) (hK : ∀ σ', rf0 σ σ' → σ' 149 15 = k → σ' 149 16 = p → K none (T0 n) σ') : Rn 188 0 [some (vR 149), none, none, none] [] (T0 n) σ K := by
  have r2 := h.2.1
  have k1 := (skF_in (t := t) (L := L) 1600 a a0 a1 (by omega)).1
  have c40 := hS.2.1
  unfold nmB at hB
  have go : Rn 177 0 [some (vR 149)] [] (T0 n) σ (fun r T' σ' => Rn 188 4 [some (vR 149), none, none, none] (sx_push r []) T' σ' K) := by
    refine x177f h ha a0 a1 h0 hw rfl (fun y σ1 f1 f2 f3 f4 f5 => ?_) (fun y σ1 f1 f2 f3 => ?_)
    rotate_left
    · rcases hB with ⟨_, rfl, rfl⟩ | ⟨z, _⟩
      · have hK := hK σ1 f1 f2 f3
        simp only [s188_4, s188_5, s188_8, s188_11, Int.reduceToNat, Int.reducePow, Nat.reducePow, Int.reduceLE, Int.reduceLT, Int.reduceNeg, Int.reduceEq, Int.reduceNe, Int.reduceAdd, Int.reduceSub, Int.reduceMul, and_self, sx_push, tf, List.length_cons, List.length_nil, Option.some.injEq, exists_eq_left', Nat.reduceAdd, Nat.reduceLeDiff, true_and, and_true, true_or, or_true, Int.zero_add, Nat.zero_le, eq_self, ne_eq, not_true_eq_false, not_false_eq_true, false_implies, true_implies, implies_true, b2i_0, b2i_1, b2i_01, up_sc, sc_at, sc_sc, ite_true, ite_false, if_true, if_false, Nat.reduceEqDiff, reduceIte, x178, f2]
        repeat' (first | intro _ | refine And.intro ?_ ?_)
        all_goals first | omega | exact hK
      · exact absurd z y
    generalize skF t L 1600 a = s at *
    obtain ⟨l1, l2, l3⟩ := ltF_in (t := t) (L := L) 1600 s (by omega) (by omega) (by omega)
    have R1 := rf0_ok h f1
    have S1 := rSt_0 hS f1
    have ow := fun K => x184 (n := n) (K := K) R1 f3 f2 (by omega) (by omega)
    generalize ltF t L 1600 s = e at *
    have w183 := fun k a K => x183y (n := n) (σ := σ1) (K := K) (k := k) (a := a) f4
    have g15 : ∀ k a, sc σ1 149 (up1 (up1 (σ1 149) 15 k) 16 a) 149 15 = k := fun k a => by rw [sc_at, if_pos rfl, up1_n (by decide), up1_s]
    have g16 : ∀ k a, sc σ1 149 (up1 (up1 (σ1 149) 15 k) 16 a) 149 16 = a := fun k a => by rw [sc_at, if_pos rfl, up1_s]
    have g18 : ∀ k a, sc σ1 149 (up1 (up1 (σ1 149) 15 k) 16 a) 149 18 = c := fun k a => by rw [sc_at, if_pos rfl, up1_n (by decide), up1_n (by decide), S1.1]
    rcases hB with ⟨z, rfl, hp⟩ | ⟨z1, z2, z3⟩
    · have hp := hp.symm
      subst hp
      have z' : ownP t L s ≠ -1 := by
        rcases z with z | z
        · exact absurd y z
        · exact z
      have fin : Rn 188 58 [some (vR 149), none, none, none] [] (T0 n) (sc σ1 149 (up1 (up1 (σ1 149) 15 1) 16 s)) K := x188y (by rw [g15]; decide) (g18 1 s) c40.1 c40.2 (hK _ (rf0_tr f1 rf0_56) (g15 1 s) (g16 1 s))
      simp only [s188_4, s188_5, s188_8, s188_11, s188_12, s188_13, s188_16, s188_17, s188_20, s188_21, s188_22, s188_23, s188_26, s188_29, Int.reduceToNat, Int.reducePow, Nat.reducePow, Int.reduceLE, Int.reduceLT, Int.reduceNeg, Int.reduceEq, Int.reduceNe, Int.reduceAdd, Int.reduceSub, Int.reduceMul, and_self, sx_push, tf, List.length_cons, List.length_nil, Option.some.injEq, exists_eq_left', Nat.reduceAdd, Nat.reduceLeDiff, true_and, and_true, true_or, or_true, Int.zero_add, Nat.zero_le, eq_self, ne_eq, not_true_eq_false, not_false_eq_true, false_implies, true_implies, implies_true, b2i_0, b2i_1, b2i_01, up_sc, sc_at, sc_sc, ite_true, ite_false, if_true, if_false, Nat.reduceEqDiff, reduceIte, x178, f4, ow, f3, w183]
      repeat' (first | intro _ | refine And.intro ?_ ?_)
      all_goals first | omega | exact fin
    · rcases z3 with ⟨w, rfl, rfl⟩ | ⟨w, dd, rfl, hp⟩
      · have fin : Rn 188 58 [some (vR 149), none, none, none] [] (T0 n) (sc σ1 149 (up1 (up1 (σ1 149) 15 1) 16 (s + 6))) K := x188y (by rw [g15]; decide) (g18 1 (s + 6)) c40.1 c40.2 (hK _ (rf0_tr f1 rf0_56) (g15 1 (s + 6)) (g16 1 (s + 6)))
        simp only [s188_4, s188_5, s188_8, s188_11, s188_12, s188_13, s188_16, s188_17, s188_32, s188_33, s188_36, s188_37, s188_40, s188_41, s188_43, s188_46, s188_47, s188_48, s188_49, s188_52, s188_54, s188_55, Int.reduceToNat, Int.reducePow, Nat.reducePow, Int.reduceLE, Int.reduceLT, Int.reduceNeg, Int.reduceEq, Int.reduceNe, Int.reduceAdd, Int.reduceSub, Int.reduceMul, and_self, sx_push, tf, List.length_cons, List.length_nil, Option.some.injEq, exists_eq_left', Nat.reduceAdd, Nat.reduceLeDiff, true_and, and_true, true_or, or_true, Int.zero_add, Nat.zero_le, eq_self, ne_eq, not_true_eq_false, not_false_eq_true, false_implies, true_implies, implies_true, b2i_0, b2i_1, b2i_01, up_sc, sc_at, sc_sc, ite_true, ite_false, if_true, if_false, Nat.reduceEqDiff, reduceIte, x178, f4, ow, z2, f2, f3, w183]
        repeat' (first | intro _ | refine And.intro ?_ ?_)
        all_goals first | omega | exact fin
      · have hp := hp.symm
        subst hp
        have fin : Rn 188 60 [some (vR 149), some (vI 0), none, none] [] (T0 n) σ1 K := by
          refine x188d R1 S1 f3 f2 (by omega) l1.1 (by omega) l2 w f4 (fun u v x => ?_) c.toNat 0 none none (by omega) (by omega) dd
          exact x188x (by rw [g15]; decide) (hK _ (rf0_tr f1 rf0_56) (g15 3 s) (g16 3 s))
        simp only [s188_4, s188_5, s188_8, s188_11, s188_12, s188_13, s188_16, s188_17, s188_32, s188_33, s188_36, s188_37, s188_40, s188_41, s188_43, s188_58, s188_59, Int.reduceToNat, Int.reducePow, Nat.reducePow, Int.reduceLE, Int.reduceLT, Int.reduceNeg, Int.reduceEq, Int.reduceNe, Int.reduceAdd, Int.reduceSub, Int.reduceMul, and_self, sx_push, tf, List.length_cons, List.length_nil, Option.some.injEq, exists_eq_left', Nat.reduceAdd, Nat.reduceLeDiff, true_and, and_true, true_or, or_true, Int.zero_add, Nat.zero_le, eq_self, ne_eq, not_true_eq_false, not_false_eq_true, false_implies, true_implies, implies_true, b2i_0, b2i_1, b2i_01, up_sc, sc_at, sc_sc, ite_true, ite_false, if_true, if_false, Nat.reduceEqDiff, reduceIte, x178, f4, ow, z2, f2, f3]
        repeat' (first | intro _ | refine And.intro ?_ ?_)
        all_goals first | omega | exact fin
  simp only [s188_0, s188_1, Int.reduceToNat, Int.reducePow, Nat.reducePow, Int.reduceLE, Int.reduceLT, Int.reduceNeg, Int.reduceEq, Int.reduceNe, Int.reduceAdd, Int.reduceSub, Int.reduceMul, and_self, sx_push, tf, List.length_cons, List.length_nil, Option.some.injEq, exists_eq_left', Nat.reduceAdd, Nat.reduceLeDiff, true_and, and_true, true_or, or_true, Int.zero_add, Nat.zero_le, eq_self, ne_eq, not_true_eq_false, not_false_eq_true, false_implies, true_implies, implies_true, b2i_0, b2i_1, b2i_01, up_sc, sc_at, sc_sc, ite_true, ite_false, if_true, if_false, Nat.reduceEqDiff, reduceIte]
  repeat' (first | intro _ | refine And.intro ?_ ?_)
  all_goals first | omega | exact go
end SC
