/-! images: on -/
section O5
variable {n : Nat} {c : Int} {σ : sxS} {K : Option sxV → sxT → sxS → Prop} {t g : Int → Int} {len : Int}
theorem trO_s {σ' : sxS} {i l r : Int} (h : trO σ g r) (ok : rdOk t g l) (l0 : -1 ≤ l) (h1 : l < t (2 + 6 * i)) (h2 : t (2 + 6 * i) ≤ 39) (h3 : 0 ≤ t (2 + 6 * i + 4) ∧ t (2 + 6 * i + 4) ≤ 10) (e13 : σ' 13 = up1 (σ 13) (t (2 + 6 * i)) (pk (t (2 + 6 * i + 1)) (t (2 + 6 * i + 2)) (t (2 + 6 * i + 3)))) (e14 : σ' 14 = up1 (σ 14) (t (2 + 6 * i)) (t (2 + 6 * i + 4))) (e15 : σ' 15 = up1 (σ 15) (t (2 + 6 * i)) (if t (2 + 6 * i + 5) = 255 then -1 else t (2 + 6 * i + 5))) (e16 : σ' 16 = σ 16) (e4 : σ' 12 4 = σ 12 4) (e5 : σ' 12 5 = (if t (2 + 6 * i + 4) = 10 then t (2 + 6 * i) else r)) (e6 : σ' 12 6 = σ 12 6 + 1) : trO σ' (gU t g i) (if t (2 + 6 * i + 4) = 10 then t (2 + 6 * i) else r) := by
  obtain ⟨a1, a2, a3, a4, a5, a6, a7⟩ := h
  have y := gU_y (t := t) (g := g) (i := i) (by omega) h2
  have y480 : gU t g i 480 = g 480 := gU_n (by omega) (by omega) (by omega) (by omega) (by omega) (by omega)
  have kn : ∀ q, 0 ≤ q → q < 40 → q ≠ t (2 + 6 * i) → gU t g i q = g q ∧ gU t g i (40 + q) = g (40 + q) ∧ gU t g i (80 + q) = g (80 + q) ∧ gU t g i (120 + q) = g (120 + q) ∧ gU t g i (160 + q) = g (160 + q) ∧ gU t g i (200 + q) = g (200 + q) := fun q q0 q1 qe => ⟨gU_n qe (by omega) (by omega) (by omega) (by omega) (by omega), gU_n (by omega) (by omega) (by omega) (by omega) (by omega) (by omega), gU_n (by omega) (by omega) (by omega) (by omega) (by omega) (by omega), gU_n (by omega) (by omega) (by omega) (by omega) (by omega) (by omega), gU_n (by omega) (by omega) (by omega) (by omega) (by omega) (by omega), gU_n (by omega) (by omega) (by omega) (by omega) (by omega) (by omega)⟩
  have new : g (t (2 + 6 * i)) = 0 := by have := (ok (t (2 + 6 * i)) (by omega) (by omega)).1; omega
  refine ⟨fun p p0 p1 => ?_, fun p p0 p1 hp => ?_, fun p p0 p1 hp => ?_, by rw [e16]; exact a4, by rw [e4, y480]; exact a5, e5, ?_⟩
  · change (_ ∧ σ' 14 p = _ ∧ _ ∧ _ ∧ σ' 13 p = _ ∧ _) ∨ (_ ∧ σ' 14 p < 0)
    rw [e13, e14, e4, y480]
    by_cases z : p = t (2 + 6 * i)
    · rw [z, up1_s, up1_s, y.1, y.2.1, y.2.2.1, y.2.2.2.1, y.2.2.2.2.1]
      exact Or.inl ⟨rfl, rfl, h3.1, h3.2, rfl, a5⟩
    · have k := kn p p0 p1 z
      rw [up1_n z, up1_n z, k.1, k.2.1, k.2.2.1, k.2.2.2.1, k.2.2.2.2.1]
      exact a1 p p0 p1
  · change σ' 15 p = _
    rw [e15]
    by_cases z : p = t (2 + 6 * i)
    · rw [z, up1_s, y.2.2.2.2.2]
    · have k := kn p p0 p1 z
      rw [k.1] at hp
      rw [up1_n z, k.2.2.2.2.2]
      exact a2 p p0 p1 hp
  · change σ' 14 p = _
    rw [e14]
    by_cases z : p = t (2 + 6 * i)
    · rw [z, y.1] at hp; omega
    · have k := kn p p0 p1 z
      rw [k.1] at hp
      rw [up1_n z]
      exact a3 p p0 p1 hp
  · rw [e6, a7]
    exact (cntF_one (r := t (2 + 6 * i)) (d := 1) (by rw [y.1, new]; rfl) 40 0 0 (by omega) (by omega) (fun q q0 q1 qe => (kn q q0 (by omega) qe).1)).symm
theorem x161l {M : Int} (hM : M ≤ 40) (hl : len = 3 + 6 * M) : ∀ (k : Nat) (i l r : Int) (σ : sxS) (g : Int → Int) (u v : Option sxV), i + k = M → 0 ≤ i → -1 ≤ l → l ≤ 39 → tpOk σ t len → rdOk t g l → trO σ g r → (syJ t k i l = true → rdJ t k i r = true → ∀ σ', fr σ σ' 12 16 → trO σ' (gJ t k i g) (rtJ t k i r) → ∀ w u v, Rn 161 119 [some (vR 12), some (vR 2), some (vI M), w, some (vI M), u, v] [] (T0 n) σ' K) → (¬ (syJ t k i l = true ∧ rdJ t k i r = true) → ∀ σ', fr σ σ' 12 16 → K (some (vI 0)) (T0 n) σ') → Rn 161 69 [some (vR 12), some (vR 2), some (vI M), some (vI l), some (vI i), u, v] [] (T0 n) σ K := by
  intro k
  induction k with
  | zero =>
    intro i l r σ g u v hi i0 l0 l1 ht ok h hK1 hK0
    obtain rfl : i = M := by omega
    have hK := hK1 rfl rfl σ fr_rfl h (some (vI l)) u v
    rw [s161_69]
    simp only [s161_71, s161_72, sx_push, tf, List.length_cons, List.length_nil, Option.some.injEq, exists_eq_left', Nat.reduceAdd, Nat.reduceLeDiff, true_and, and_true, true_or, or_true, Int.zero_add, Nat.zero_le, eq_self, ne_eq, not_true_eq_false, not_false_eq_true, false_implies, true_implies, implies_true, b2i_0, b2i_1, b2i_01, up_sc, sc_at, sc_sc, ite_true, ite_false, if_true, if_false, Nat.reduceEqDiff, reduceIte]
    repeat' (first | intro _ | refine And.intro ?_ ?_)
    all_goals first | omega | exact hK
  | succ k ih =>
    intro i l r σ g u v hi i0 l0 l1 ht ok h hK1 hK0
    have y : ∀ d, 0 ≤ d → d ≤ 5 → in8 (t (2 + 6 * i + d)) := fun d d0 d1 => (ht.2.2 (2 + 6 * i + d) (by omega) (by omega)).2
    have y0 := y 0 (by omega) (by omega)
    rw [Int.add_zero] at y0
    have y4 := y 4 (by omega) (by omega)
    unfold in8 at y0 y4
    have th : th01 g := fun p p0 p1 => by have := (ok p p0 p1).1; omega
    have ci := cntF_in th 40 0 0 (by omega) (by omega)
    have cm : i * 6 = 6 * i := Int.mul_comm i 6
    rw [s161_69]
    by_cases e0 : l < t (2 + 6 * i)
    · have main : Rn 163 0 [some (vR 12), some (vR 2), some (vI (2 + 6 * i)), none, none, none] [] (T0 n) σ (fun r' T' σ' => Rn 161 105 [some (vR 12), some (vR 2), some (vI M), some (vI l), some (vI i), some (vI (2 + 6 * i)), some (vI (t (2 + 6 * i)))] (sx_push r' []) T' σ' K) := by
        refine x163 ht (by omega) (by omega) h.2.2.2.2.2.1 (by rw [h.2.2.2.2.2.2]; omega) (fun po σ' f1 e13 e14 e15 e16 e4 e5 e6 => ?_) (fun po σ' f1 => ?_)
        · have hs := trO_s h ok l0 e0 po.1.1 ⟨y4.1, po.1.2⟩ e13 e14 e15 e16 e4 e5 e6
          have ok' := rdOk_s ok y l0 e0 po.1.1 po.1.2
          have sy : syJ t (k + 1) i l = syJ t k (i + 1) (t (2 + 6 * i)) := by rw [syJ, if_pos ⟨⟨e0, po.1.1⟩, po.1.2⟩]
          have rd : rdJ t (k + 1) i r = rdJ t k (i + 1) (if t (2 + 6 * i + 4) = 10 then t (2 + 6 * i) else r) := by
            rw [rdJ]
            by_cases e10 : t (2 + 6 * i + 4) = 10
            · rw [if_pos e10, if_pos (po.2 e10), if_pos e10]
            · rw [if_neg e10, if_neg e10]
          rw [sy, rd] at hK1 hK0
          have go := ih (i + 1) (t (2 + 6 * i)) _ σ' _ (some (vI (2 + 6 * i))) (some (vI (t (2 + 6 * i)))) (by omega) (by omega) (by omega) po.1.1 (tpOk_k ht (fun k hk => f1 k (by omega))) ok' hs (fun a b σ2 f2 => hK1 a b σ2 (fr_tr f1 f2)) (fun a σ2 f2 => hK0 a σ2 (fr_tr f1 f2))
          simp only [s161_105, s161_110, s161_112, s161_113, s161_116, sx_push, tf, List.length_cons, List.length_nil, Option.some.injEq, exists_eq_left', Nat.reduceAdd, Nat.reduceLeDiff, true_and, and_true, true_or, or_true, Int.zero_add, Nat.zero_le, eq_self, ne_eq, not_true_eq_false, not_false_eq_true, false_implies, true_implies, implies_true, b2i_0, b2i_1, b2i_01, up_sc, sc_at, sc_sc, ite_true, ite_false, if_true, if_false, Nat.reduceEqDiff, reduceIte]
          repeat' (first | intro _ | refine And.intro ?_ ?_)
          all_goals first | omega | exact go
        · have hK := hK0 (fun z => po ?_) σ' f1
          · simp only [s161_105, s161_108, s161_109, sx_push, tf, List.length_cons, List.length_nil, Option.some.injEq, exists_eq_left', Nat.reduceAdd, Nat.reduceLeDiff, true_and, and_true, true_or, or_true, Int.zero_add, Nat.zero_le, eq_self, ne_eq, not_true_eq_false, not_false_eq_true, false_implies, true_implies, implies_true, b2i_0, b2i_1, b2i_01, up_sc, sc_at, sc_sc, ite_true, ite_false, if_true, if_false, Nat.reduceEqDiff, reduceIte]
            repeat' (first | intro _ | refine And.intro ?_ ?_)
            all_goals first | omega | exact hK
          · obtain ⟨z1, z2⟩ := z
            rw [syJ] at z1
            rw [rdJ] at z2
            split at z1
            · rename_i w
              refine ⟨⟨w.1.2, w.2⟩, fun e10 => ?_⟩
              rw [if_pos e10] at z2
              split at z2
              · assumption
              · cases z2
            · cases z1
      simp only [s161_71, s161_72, s161_75, s161_76, s161_78, s161_80, s161_81, s161_82, s161_84, s161_85, s161_87, s161_90, s161_92, s161_94, s161_95, s161_98, s161_99, s161_100, s161_102, sx_push, tf, List.length_cons, List.length_nil, Option.some.injEq, exists_eq_left', Nat.reduceAdd, Nat.reduceLeDiff, true_and, and_true, true_or, or_true, Int.zero_add, Nat.zero_le, eq_self, ne_eq, not_true_eq_false, not_false_eq_true, false_implies, true_implies, implies_true, b2i_0, b2i_1, b2i_01, up_sc, sc_at, sc_sc, ite_true, ite_false, if_true, if_false, Nat.reduceEqDiff, reduceIte, cm, x20t ht (show 0 ≤ 2 + 6 * i by omega) (show 2 + 6 * i < len by omega)]
      repeat' (first | intro _ | refine And.intro ?_ ?_)
      all_goals first | omega | exact main
    · have hK := hK0 (fun z => by
        have z1 := z.1
        rw [syJ, if_neg (fun w => e0 w.1.1)] at z1
        cases z1) σ fr_rfl
      simp only [s161_71, s161_72, s161_75, s161_76, s161_78, s161_80, s161_81, s161_82, s161_84, s161_85, s161_87, s161_90, s161_92, s161_94, s161_95, s161_108, s161_109, sx_push, tf, List.length_cons, List.length_nil, Option.some.injEq, exists_eq_left', Nat.reduceAdd, Nat.reduceLeDiff, true_and, and_true, true_or, or_true, Int.zero_add, Nat.zero_le, eq_self, ne_eq, not_true_eq_false, not_false_eq_true, false_implies, true_implies, implies_true, b2i_0, b2i_1, b2i_01, up_sc, sc_at, sc_sc, ite_true, ite_false, if_true, if_false, Nat.reduceEqDiff, reduceIte, cm, x20t ht (show 0 ≤ 2 + 6 * i by omega) (show 2 + 6 * i < len by omega)]
      repeat' (first | intro _ | refine And.intro ?_ ?_)
      all_goals first | omega | exact hK
def hdP (t : Int → Int) (len : Int) : Prop := (3 ≤ len ∧ t 0 ≤ 2 ∧ t 1 ≤ 40 ∧ len = 3 + 6 * t 1) ∧ ckT t (len - 1).toNat 0 149 = t (len - 1)
def onC (t g : Int → Int) (len : Int) : Prop := hdP t len ∧ syJ t (t 1).toNat 0 (-1) = true ∧ rdJ t (t 1).toNat 0 (-1) = true ∧ covP (gJ t (t 1).toNat 0 g) (rtJ t (t 1).toNat 0 (-1)) ∧ sepP (gJ t (t 1).toNat 0 g)
def onR (t g : Int → Int) (len : Int) : Prop := hdP t len ∧ syJ t (t 1).toNat 0 (-1) = true ∧ dfJ t (t 1).toNat 0 g = true ∧ netsP (gJ t (t 1).toNat 0 g)
theorem on_CR (ht : ∀ j, 0 ≤ j → j < len → in8 (t j)) (hz : ∀ j, 0 ≤ j → j < 480 → g j = 0) : onC t g len ↔ onR t g len := by
  have ok : rdOk t g (-1) := fun p p0 p1 => by
    rw [hz p p0 (by omega), hz (40 + p) (by omega) (by omega), hz (80 + p) (by omega) (by omega), hz (120 + p) (by omega) (by omega)]
    exact ⟨Or.inl rfl, ⟨by omega, by omega⟩, ⟨by omega, by omega⟩, ⟨by omega, by omega⟩, fun z => by omega⟩
  have key : hdP t len → syJ t (t 1).toNat 0 (-1) = true → _ := fun hh hs => on_iff (t := t) (g := g) (m := (t 1).toNat) (fun j a b => ht j (by omega) (by
    have b1 := ht 1 (by omega) (by have := hh.1; omega)
    unfold in8 at b1
    have := hh.1
    omega)) ok (fun p p0 p1 => hz p p0 (by omega)) hs
  constructor
  · rintro ⟨a1, a2, a3, a4, a5⟩
    have z := (key a1 a2).mp ⟨a3, a4.1, a4.2, a5⟩
    exact ⟨a1, a2, z.1, z.2.1, z.2.2.1, z.2.2.2⟩
  · rintro ⟨a1, a2, a3, a4, a5, a6⟩
    have z := (key a1 a2).mpr ⟨a3, a4, a5, a6⟩
    exact ⟨a1, a2, z.1, ⟨z.2.1, z.2.2.1⟩, z.2.2.2⟩
theorem x161 (h : tpOk σ t len) (hz : ∀ j, 0 ≤ j → j < 480 → g j = 0) (h480 : g 480 = t 0) (hK1 : onC t g len → ∀ σ', fr σ σ' 12 16 → trO σ' (gJ t (t 1).toNat 0 g) (rtJ t (t 1).toNat 0 (-1)) → K (some (vI 1)) (T0 n) σ') (hK0 : ¬ onC t g len → ∀ σ', fr σ σ' 12 16 → K (some (vI 0)) (T0 n) σ') : Rn 161 0 [some (vR 12), some (vR 2), none, none, none, none, none] [] (T0 n) σ K := by
  simp only [s161_0, s161_1, sx_push, tf, List.length_cons, List.length_nil, Option.some.injEq, exists_eq_left', Nat.reduceAdd, Nat.reduceLeDiff, true_and, and_true, true_or, or_true, Int.zero_add, Nat.zero_le, eq_self, ne_eq, not_true_eq_false, not_false_eq_true, false_implies, true_implies, implies_true, b2i_0, b2i_1, b2i_01, up_sc, sc_at, sc_sc, ite_true, ite_false, if_true, if_false, Nat.reduceEqDiff, reduceIte, tp isP12]
  refine x35 isP12 (fun σ1 f1 a1 a2 a3 a4 => ?_)
  have h1 : tpOk σ1 t len := tpOk_k h (fun k hk => f1 k (by omega))
  have h2 := h1.1
  have h3 := h1.2.1
  by_cases l2 : 2 ≤ len
  · have b0 := (h1.2.2 0 (by omega) (by omega)).2
    have b1 := (h1.2.2 1 (by omega) (by omega)).2
    unfold in8 at b0 b1
    have cm : t 1 * 6 = 6 * t 1 := Int.mul_comm _ 6
    by_cases e1 : (3 ≤ len ∧ t 0 ≤ 2 ∧ t 1 ≤ 40 ∧ len = 3 + 6 * t 1)
    · by_cases e2 : ckT t (len - 1).toNat 0 149 = t (len - 1)
      · have main : Rn 161 69 [some (vR 12), some (vR 2), some (vI (t 1)), some (vI (-1)), some (vI 0), none, none] [] (T0 n) (sc σ1 12 (up1 (σ1 12) 4 (t 0))) K := by
          have ok : rdOk t g (-1) := fun p p0 p1 => by
            rw [hz p p0 (by omega), hz (40 + p) (by omega) (by omega), hz (80 + p) (by omega) (by omega), hz (120 + p) (by omega) (by omega)]
            exact ⟨Or.inl rfl, ⟨by omega, by omega⟩, ⟨by omega, by omega⟩, ⟨by omega, by omega⟩, fun z => by omega⟩
          have f2 : fr σ (sc σ1 12 (up1 (σ1 12) 4 (t 0))) 12 16 := fr_sc f1 (by omega) (by omega)
          have tr : trO (sc σ1 12 (up1 (σ1 12) 4 (t 0))) g (-1) := by
            refine ⟨fun p p0 p1 => Or.inr ⟨hz p p0 (by omega), ?_⟩, fun p p0 p1 hp => ?_, fun p p0 p1 _ => ?_, fun j j0 j1 => ?_, ?_, ?_, ?_⟩
            · change sc σ1 12 _ 14 p < 0
              simp only [sc_at, Nat.reduceEqDiff, reduceIte]
              have := (a1 p p0 p1).1
              change σ1 14 p = -1 at this
              omega
            · have := hz p p0 (by omega); omega
            · change sc σ1 12 _ 14 p = -1
              simp only [sc_at, Nat.reduceEqDiff, reduceIte]
              exact (a1 p p0 p1).1
            · simp only [sc_at, Nat.reduceEqDiff, reduceIte]
              exact (a1 j j0 j1).2.2
            · simp only [sc_at, reduceIte]; rw [up1_s]; exact h480.symm
            · simp only [sc_at, reduceIte]; rw [up1_n (by omega)]; exact a3
            · simp only [sc_at, reduceIte]; rw [up1_n (by omega), cntF_none 40 0 0 (by omega) (fun q q0 q1 => hz q q0 (by omega))]; exact a4
          refine x161l (by omega) e1.2.2.2 (t 1).toNat 0 (-1) (-1) _ g _ _ (by omega) (by omega) (by omega) (by omega) (tpOk_k h (fun k hk => f2 k (by omega))) ok tr (fun s1 s2 σ3 f3 tr3 w u v => ?_) (fun s1 σ3 f3 => hK0 (fun z => s1 ⟨z.2.1, z.2.2.1⟩) σ3 (fr_tr f2 f3))
          have okG := rdOk_J (t := t) (t 1).toNat 0 (-1) g (by omega) (by omega) ok (fun j a b => (h1.2.2 j (by omega) (by omega)).2) s1
          have hwG : wfc (gJ t (t 1).toNat 0 g) := fun p p0 p1 => ⟨(okG p p0 p1).2.1, (okG p p0 p1).2.2.1, (okG p p0 p1).2.2.2.1⟩
          simp only [s161_119, s161_120, sx_push, tf, List.length_cons, List.length_nil, Option.some.injEq, exists_eq_left', Nat.reduceAdd, Nat.reduceLeDiff, true_and, and_true, true_or, or_true, Int.zero_add, Nat.zero_le, eq_self, ne_eq, not_true_eq_false, not_false_eq_true, false_implies, true_implies, implies_true, b2i_0, b2i_1, b2i_01, up_sc, sc_at, sc_sc, ite_true, ite_false, if_true, if_false, Nat.reduceEqDiff, reduceIte]
          refine x164 tr3 hwG (fun c1 => ?_) (fun c1 => ?_)
          · simp only [s161_123, s161_126, s161_127, sx_push, tf, List.length_cons, List.length_nil, Option.some.injEq, exists_eq_left', Nat.reduceAdd, Nat.reduceLeDiff, true_and, and_true, true_or, or_true, Int.zero_add, Nat.zero_le, eq_self, ne_eq, not_true_eq_false, not_false_eq_true, false_implies, true_implies, implies_true, b2i_0, b2i_1, b2i_01, up_sc, sc_at, sc_sc, ite_true, ite_false, if_true, if_false, Nat.reduceEqDiff, reduceIte]
            repeat' (first | intro _ | refine And.intro ?_ ?_)
            all_goals first | omega | skip
            refine x165 tr3.1 hwG (fun d1 => ?_) (fun d1 => ?_)
            · have hK := hK1 ⟨⟨e1, e2⟩, s1, s2, c1, d1⟩ σ3 (fr_tr f2 f3) tr3
              simp only [s161_130, s161_133, s161_134, s161_137, s161_138, sx_push, tf, List.length_cons, List.length_nil, Option.some.injEq, exists_eq_left', Nat.reduceAdd, Nat.reduceLeDiff, true_and, and_true, true_or, or_true, Int.zero_add, Nat.zero_le, eq_self, ne_eq, not_true_eq_false, not_false_eq_true, false_implies, true_implies, implies_true, b2i_0, b2i_1, b2i_01, up_sc, sc_at, sc_sc, ite_true, ite_false, if_true, if_false, Nat.reduceEqDiff, reduceIte]
              repeat' (first | intro _ | refine And.intro ?_ ?_)
              all_goals first | omega | exact hK
            · have hK := hK0 (fun z => d1 z.2.2.2.2) σ3 (fr_tr f2 f3)
              simp only [s161_130, s161_133, s161_134, s161_137, s161_138, sx_push, tf, List.length_cons, List.length_nil, Option.some.injEq, exists_eq_left', Nat.reduceAdd, Nat.reduceLeDiff, true_and, and_true, true_or, or_true, Int.zero_add, Nat.zero_le, eq_self, ne_eq, not_true_eq_false, not_false_eq_true, false_implies, true_implies, implies_true, b2i_0, b2i_1, b2i_01, up_sc, sc_at, sc_sc, ite_true, ite_false, if_true, if_false, Nat.reduceEqDiff, reduceIte]
              repeat' (first | intro _ | refine And.intro ?_ ?_)
              all_goals first | omega | exact hK
          · have hK := hK0 (fun z => c1 z.2.2.2.1) σ3 (fr_tr f2 f3)
            simp only [s161_123, s161_126, s161_127, s161_130, s161_133, s161_134, s161_137, s161_138, sx_push, tf, List.length_cons, List.length_nil, Option.some.injEq, exists_eq_left', Nat.reduceAdd, Nat.reduceLeDiff, true_and, and_true, true_or, or_true, Int.zero_add, Nat.zero_le, eq_self, ne_eq, not_true_eq_false, not_false_eq_true, false_implies, true_implies, implies_true, b2i_0, b2i_1, b2i_01, up_sc, sc_at, sc_sc, ite_true, ite_false, if_true, if_false, Nat.reduceEqDiff, reduceIte]
            repeat' (first | intro _ | refine And.intro ?_ ?_)
            all_goals first | omega | exact hK
        simp only [s161_4, s161_5, s161_6, s161_9, s161_10, s161_11, s161_14, s161_15, s161_17, s161_20, s161_21, s161_22, s161_25, s161_28, s161_31, s161_32, s161_35, s161_36, s161_37, s161_39, s161_40, s161_41, s161_42, s161_43, s161_46, s161_47, s161_50, s161_53, s161_54, s161_55, s161_56, s161_57, s161_58, s161_61, s161_64, s161_65, s161_66, s161_67, sx_push, tf, List.length_cons, List.length_nil, Option.some.injEq, exists_eq_left', Nat.reduceAdd, Nat.reduceLeDiff, true_and, and_true, true_or, or_true, Int.zero_add, Nat.zero_le, eq_self, ne_eq, not_true_eq_false, not_false_eq_true, false_implies, true_implies, implies_true, b2i_0, b2i_1, b2i_01, up_sc, sc_at, sc_sc, ite_true, ite_false, if_true, if_false, Nat.reduceEqDiff, reduceIte, cm, h2, x20t h1 (show 0 ≤ (1 : Int) by omega) (show 1 < len by omega), x20t h1 (show 0 ≤ (0 : Int) by omega) (show 0 < len by omega), x147, x162 h1 (show 1 ≤ len by omega), tp isP12]
        repeat' (first | intro _ | refine And.intro ?_ ?_)
        all_goals first | omega | exact main
      · have hK := hK0 (fun z => e2 z.1.2) σ1 f1
        simp only [s161_4, s161_5, s161_6, s161_9, s161_10, s161_11, s161_14, s161_15, s161_17, s161_20, s161_21, s161_22, s161_25, s161_28, s161_31, s161_32, s161_35, s161_36, s161_37, s161_39, s161_40, s161_41, s161_42, s161_43, s161_46, s161_47, s161_50, s161_53, s161_54, sx_push, tf, List.length_cons, List.length_nil, Option.some.injEq, exists_eq_left', Nat.reduceAdd, Nat.reduceLeDiff, true_and, and_true, true_or, or_true, Int.zero_add, Nat.zero_le, eq_self, ne_eq, not_true_eq_false, not_false_eq_true, false_implies, true_implies, implies_true, b2i_0, b2i_1, b2i_01, up_sc, sc_at, sc_sc, ite_true, ite_false, if_true, if_false, Nat.reduceEqDiff, reduceIte, cm, h2, x20t h1 (show 0 ≤ (1 : Int) by omega) (show 1 < len by omega), x20t h1 (show 0 ≤ (0 : Int) by omega) (show 0 < len by omega), x147, x162 h1 (show 1 ≤ len by omega)]
        repeat' (first | intro _ | refine And.intro ?_ ?_)
        all_goals first | omega | exact hK | contradiction
    · have hK := hK0 (fun z => e1 z.1.1) σ1 f1
      simp only [s161_4, s161_5, s161_6, s161_9, s161_10, s161_11, s161_14, s161_15, s161_17, s161_20, s161_21, s161_22, s161_25, s161_28, s161_31, s161_32, s161_35, s161_36, s161_37, s161_39, s161_40, s161_41, s161_42, s161_43, s161_46, s161_47, s161_50, s161_53, s161_54, sx_push, tf, List.length_cons, List.length_nil, Option.some.injEq, exists_eq_left', Nat.reduceAdd, Nat.reduceLeDiff, true_and, and_true, true_or, or_true, Int.zero_add, Nat.zero_le, eq_self, ne_eq, not_true_eq_false, not_false_eq_true, false_implies, true_implies, implies_true, b2i_0, b2i_1, b2i_01, up_sc, sc_at, sc_sc, ite_true, ite_false, if_true, if_false, Nat.reduceEqDiff, reduceIte, cm, h2, x20t h1 (show 0 ≤ (1 : Int) by omega) (show 1 < len by omega), x20t h1 (show 0 ≤ (0 : Int) by omega) (show 0 < len by omega), x147, x162 h1 (show 1 ≤ len by omega)]
      repeat' (first | intro _ | refine And.intro ?_ ?_)
      all_goals first | omega | exact hK
  · have hK := hK0 (fun z => by have := z.1.1; omega) σ1 f1
    have b1 := fun K => x20 (n := n) (σ := σ1) (K := K) (i := 1)
    rw [if_neg (by omega)] at b1
    simp only [s161_4, s161_5, s161_6, s161_9, s161_10, s161_11, s161_53, s161_54, Int.reduceToNat, Int.reducePow, Nat.reducePow, Int.reduceLE, Int.reduceLT, Int.reduceNeg, Int.reduceEq, Int.reduceNe, Int.reduceAdd, Int.reduceSub, Int.reduceMul, and_self, sx_push, tf, List.length_cons, List.length_nil, Option.some.injEq, exists_eq_left', Nat.reduceAdd, Nat.reduceLeDiff, true_and, and_true, true_or, or_true, Int.zero_add, Nat.zero_le, eq_self, ne_eq, not_true_eq_false, not_false_eq_true, false_implies, true_implies, implies_true, b2i_0, b2i_1, b2i_01, up_sc, sc_at, sc_sc, ite_true, ite_false, if_true, if_false, Nat.reduceEqDiff, reduceIte, b1]
    repeat' (first | intro _ | refine And.intro ?_ ?_)
    all_goals first | omega | exact hK
theorem x283k {len : Int} (hl : 1 ≤ len ∧ len ≤ 1600) (ht : ∀ j, 0 ≤ j → j < len → in8 (σ 154 j)) : ∀ (m : Nat) (i d : Int), i + m = len - 1 → 0 ≤ i → 0 ≤ d → d ≤ 251 → Rn 283 93 [some (vR 149), some (vI len), some (vI (ckT (σ 154) m i d)), some (vI (len - 1))] [] (T0 n) σ K → Rn 283 65 [some (vR 149), some (vI len), some (vI d), some (vI i)] [] (T0 n) σ K := by
  intro m
  induction m with
  | zero =>
    intro i d hi i0 d0 d1 hK
    obtain rfl : i = len - 1 := by omega
    rw [s283_65]
    simp only [s283_66, s283_67, s283_68, s283_69, sx_push, tf, List.length_cons, List.length_nil, Option.some.injEq, exists_eq_left', Nat.reduceAdd, Nat.reduceLeDiff, true_and, and_true, true_or, or_true, Int.zero_add, Nat.zero_le, eq_self, ne_eq, not_true_eq_false, not_false_eq_true, false_implies, true_implies, implies_true, b2i_0, b2i_1, b2i_01, up_sc, sc_at, sc_sc, ite_true, ite_false, if_true, if_false, Nat.reduceEqDiff, reduceIte]
    repeat' (first | intro _ | refine And.intro ?_ ?_)
    all_goals first | omega | exact hK
  | succ m ih =>
    intro i d hi i0 d0 d1 hK
    have b := ht i i0 (by omega)
    unfold in8 at b
    unfold ckT at hK
    rw [s283_65]
    simp only [s283_66, s283_67, s283_68, s283_69, s283_72, s283_73, s283_74, s283_75, s283_76, s283_79, s283_80, s283_81, s283_82, s283_85, s283_86, s283_87, s283_90, sx_push, tf, List.length_cons, List.length_nil, Option.some.injEq, exists_eq_left', Nat.reduceAdd, Nat.reduceLeDiff, true_and, and_true, true_or, or_true, Int.zero_add, Nat.zero_le, eq_self, ne_eq, not_true_eq_false, not_false_eq_true, false_implies, true_implies, implies_true, b2i_0, b2i_1, b2i_01, up_sc, sc_at, sc_sc, ite_true, ite_false, if_true, if_false, Nat.reduceEqDiff, reduceIte, tm251 (show 0 ≤ 3 * d + σ 154 i by omega)]
    have main := ih (i + 1) ((3 * d + σ 154 i) % 251) (by omega) (by omega) (by omega) (by omega) hK
    repeat' (first | intro _ | refine And.intro ?_ ?_)
    all_goals first | omega | exact main
theorem x283 (h6 : σ 149 6 = 1) (hl : 0 ≤ σ 149 8 ∧ σ 149 8 ≤ 1600) (ht : ∀ j, 0 ≤ j → j < σ 149 8 → in8 (σ 154 j)) (hr : inI (σ 155 5 + 1)) (hK1 : onR (σ 154) (g0F (σ 154) (σ 150)) (σ 149 8) → ∀ σ', (∀ k, k ≠ 149 → k ≠ 150 → k ≠ 152 → σ' k = σ k) → σ' 149 = up1 (up1 (σ 149) 8 0) 4 0 → σ' 150 = gJ (σ 154) (σ 154 1).toNat 0 (g0F (σ 154) (σ 150)) → K (some (vI 1)) (T0 n) σ') (hK0 : ¬ onR (σ 154) (g0F (σ 154) (σ 150)) (σ 149 8) → ∀ σ', (∀ k, k ≠ 149 → k ≠ 150 → k ≠ 152 → k ≠ 155 → σ' k = σ k) → σ' 149 = up1 (σ 149) 8 0 → agr (σ 150) (σ' 150) → σ' 155 = up1 (σ 155) 5 (σ 155 5 + 1) → K (some (vI 0)) (T0 n) σ') : Rn 283 0 [some (vR 149), none, none, none] [] (T0 n) σ K := by
  have u6 : up1 (σ 149) 8 0 6 = 1 := by rw [up1_n (by omega)]; exact h6
  have rf := fun K => x172 (n := n) (σ := sc σ 149 (up1 (σ 149) 8 0)) (w := 5) (K := K) (by omega) (by omega) (by simpa [sc_at] using hr)
  simp only [sc_at, Nat.reduceEqDiff, reduceIte] at rf
  have hKf := fun z => hK0 z (sc (sc σ 149 (up1 (σ 149) 8 0)) 155 (up1 (σ 155) 5 (σ 155 5 + 1))) (fun k k1 k2 k3 k4 => by rw [sc_at, if_neg k4, sc_at, if_neg k1]) (by simp [sc_at]) (fun j _ _ => by simp [sc_at]) (by simp [sc_at])
  by_cases e1 : (3 ≤ σ 149 8 ∧ σ 154 0 ≤ 2 ∧ σ 154 1 ≤ 40 ∧ σ 149 8 = 3 + 6 * σ 154 1)
  · have b1 := ht 1 (by omega) (by omega)
    unfold in8 at b1
    have bl := ht (σ 149 8 - 1) (by omega) (by omega)
    unfold in8 at bl
    have main : Rn 283 65 [some (vR 149), some (vI (σ 149 8)), some (vI 149), some (vI 0)] [] (T0 n) (sc σ 149 (up1 (σ 149) 8 0)) K := by
      have e154 : sc σ 149 (up1 (σ 149) 8 0) 154 = σ 154 := by simp [sc_at]
      have e150 : sc σ 149 (up1 (σ 149) 8 0) 150 = σ 150 := by simp [sc_at]
      have e152 : sc σ 149 (up1 (σ 149) 8 0) 152 = σ 152 := by simp [sc_at]
      refine x283k (by omega) (by rw [e154]; exact ht) (σ 149 8 - 1).toNat 0 149 (by omega) (by omega) (by omega) (by omega) ?_
      rw [e154]
      by_cases e2 : ckT (σ 154) (σ 149 8 - 1).toNat 0 149 = σ 154 (σ 149 8 - 1)
      · rw [e2]
        have fail : ∀ σ3 : sxS, (∀ k, k ≠ 149 → k ≠ 150 → k ≠ 152 → σ3 k = σ k) → σ3 149 = up1 (σ 149) 8 0 → σ3 152 = cpF (σ 150) (σ 152) 481 → ¬ onR (σ 154) (g0F (σ 154) (σ 150)) (σ 149 8) → Rn 283 135 [some (vR 149), some (vI (σ 149 8)), some (vI (σ 154 (σ 149 8 - 1))), some (vI (σ 149 8 - 1))] [] (T0 n) σ3 K := fun σ3 q1 q2 q3 no => by
          have rf3 := fun K => x172 (n := n) (σ := sc σ3 150 (cpF (σ3 152) (σ3 150) 481)) (w := 5) (K := K) (by omega) (by omega) (by simp only [sc_at, Nat.reduceEqDiff, reduceIte]; rw [q1 155 (by decide) (by decide) (by decide)]; exact hr)
          simp only [s283_135, s283_136, s283_139, s283_140, s283_141, s283_144, sx_push, tf, List.length_cons, List.length_nil, Option.some.injEq, exists_eq_left', Nat.reduceAdd, Nat.reduceLeDiff, true_and, and_true, true_or, or_true, Int.zero_add, Nat.zero_le, eq_self, ne_eq, not_true_eq_false, not_false_eq_true, false_implies, true_implies, implies_true, b2i_0, b2i_1, b2i_01, up_sc, sc_at, sc_sc, ite_true, ite_false, if_true, if_false, Nat.reduceEqDiff, reduceIte, x258, rf3]
          refine hK0 no _ (fun k k1 k2 k3 k4 => ?_) ?_ (fun j j0 j1 => ?_) ?_
          · rw [sc_at, if_neg k4, sc_at, if_neg k2]; exact q1 k k1 k2 k3
          · simp only [sc_at, Nat.reduceEqDiff, reduceIte]; exact q2
          · simp only [sc_at, Nat.reduceEqDiff, reduceIte]
            rw [q3]
            unfold cpF
            rw [if_pos ⟨j0, j1⟩, if_pos ⟨j0, j1⟩]
          · simp only [sc_at, Nat.reduceEqDiff, reduceIte]; rw [q1 155 (by decide) (by decide) (by decide)]
        simp only [s283_93, s283_94, s283_97, s283_98, s283_99, s283_100, s283_101, s283_102, s283_105, s283_106, s283_107, s283_110, s283_111, s283_112, s283_115, s283_116, s283_117, s283_120, s283_121, s283_122, sx_push, tf, List.length_cons, List.length_nil, Option.some.injEq, exists_eq_left', Nat.reduceAdd, Nat.reduceLeDiff, true_and, and_true, true_or, or_true, Int.zero_add, Nat.zero_le, eq_self, ne_eq, not_true_eq_false, not_false_eq_true, false_implies, true_implies, implies_true, b2i_0, b2i_1, b2i_01, up_sc, sc_at, sc_sc, ite_true, ite_false, if_true, if_false, Nat.reduceEqDiff, reduceIte, x253]
        repeat' (first | intro _ | refine And.intro ?_ ?_)
        all_goals first | omega | skip
        have M1 : ((σ 154 1).toNat : Int) = σ 154 1 := by omega
        rw [← M1]
        refine x284 (t := σ 154) (by omega) (fun j a b => ht j (by omega) (by omega)) (by simp [sc_at]) ?_ ?_
        · simp only [sc_at, Nat.reduceEqDiff, reduceIte]
          intro s1 s2
          have ok : rdOk (σ 154) (g0F (σ 154) (σ 150)) (-1) := fun p p0 p1 => by
            have z : ∀ j, 0 ≤ j → j < 480 → g0F (σ 154) (σ 150) j = 0 := fun j j0 j1 => by unfold g0F; rw [up1_n (by omega)]; unfold cpF; rw [if_pos (by omega)]
            rw [z p p0 (by omega), z (40 + p) (by omega) (by omega), z (80 + p) (by omega) (by omega), z (120 + p) (by omega) (by omega)]
            exact ⟨Or.inl rfl, ⟨by omega, by omega⟩, ⟨by omega, by omega⟩, ⟨by omega, by omega⟩, fun z => by omega⟩
          have okG := rdOk_J (t := σ 154) (σ 154 1).toNat 0 (-1) (g0F (σ 154) (σ 150)) (by omega) (by omega) ok (fun j a b => ht j (by omega) (by omega)) s1
          simp only [s283_125, s283_128, s283_129, sx_push, tf, List.length_cons, List.length_nil, Option.some.injEq, exists_eq_left', Nat.reduceAdd, Nat.reduceLeDiff, true_and, and_true, true_or, or_true, Int.zero_add, Nat.zero_le, eq_self, ne_eq, not_true_eq_false, not_false_eq_true, false_implies, true_implies, implies_true, b2i_0, b2i_1, b2i_01, up_sc, sc_at, sc_sc, ite_true, ite_false, if_true, if_false, Nat.reduceEqDiff, reduceIte]
          repeat' (first | intro _ | refine And.intro ?_ ?_)
          all_goals first | omega | skip
          refine x285 (t := σ 154) rfl ?_ ?_ ?_
          · simpa [sc_at] using okG
          · simp only [sc_at, Nat.reduceEqDiff, reduceIte]
            intro nt
            simp only [s283_132, s283_145, s283_146, s283_147, s283_150, s283_151, sx_push, tf, List.length_cons, List.length_nil, Option.some.injEq, exists_eq_left', Nat.reduceAdd, Nat.reduceLeDiff, true_and, and_true, true_or, or_true, Int.zero_add, Nat.zero_le, eq_self, ne_eq, not_true_eq_false, not_false_eq_true, false_implies, true_implies, implies_true, b2i_0, b2i_1, b2i_01, up_sc, sc_at, sc_sc, ite_true, ite_false, if_true, if_false, Nat.reduceEqDiff, reduceIte]
            repeat' (first | intro _ | refine And.intro ?_ ?_)
            all_goals first | omega | skip
            refine hK1 ⟨⟨e1, e2⟩, s1, s2, nt⟩ _ (fun k k1 k2 k3 => ?_) ?_ ?_
            · rw [sc_at, if_neg k1, sc_at, if_neg k2, sc_at, if_neg k3, sc_at, if_neg k1]
            · simp [sc_at]
            · simp [sc_at]
          · simp only [sc_at, Nat.reduceEqDiff, reduceIte]
            intro nt
            simp only [s283_132, sx_push, tf, List.length_cons, List.length_nil, Option.some.injEq, exists_eq_left', Nat.reduceAdd, Nat.reduceLeDiff, true_and, and_true, true_or, or_true, Int.zero_add, Nat.zero_le, eq_self, ne_eq, not_true_eq_false, not_false_eq_true, false_implies, true_implies, implies_true, b2i_0, b2i_1, b2i_01, up_sc, sc_at, sc_sc, ite_true, ite_false, if_true, if_false, Nat.reduceEqDiff, reduceIte]
            refine fail _ (fun k k1 k2 k3 => ?_) ?_ ?_ (fun z => nt z.2.2.2)
            · rw [sc_at, if_neg k2, sc_at, if_neg k3, sc_at, if_neg k1]
            · simp [sc_at]
            · simp [sc_at]
        · simp only [sc_at, Nat.reduceEqDiff, reduceIte]
          intro s1 σ3 q
          simp only [s283_125, sx_push, tf, List.length_cons, List.length_nil, Option.some.injEq, exists_eq_left', Nat.reduceAdd, Nat.reduceLeDiff, true_and, and_true, true_or, or_true, Int.zero_add, Nat.zero_le, eq_self, ne_eq, not_true_eq_false, not_false_eq_true, false_implies, true_implies, implies_true, b2i_0, b2i_1, b2i_01, up_sc, sc_at, sc_sc, ite_true, ite_false, if_true, if_false, Nat.reduceEqDiff, reduceIte]
          refine fail σ3 (fun k k1 k2 k3 => ?_) ?_ ?_ (fun z => s1 ⟨z.2.1, z.2.2.1⟩)
          · rw [q k k2, if_neg k3, if_neg k1]
          · rw [q 149 (by decide)]; simp [sc_at]
          · rw [q 152 (by decide)]; simp [sc_at]
      · have hK := hKf (fun z => e2 z.1.2)
        generalize ckT (σ 154) (σ 149 8 - 1).toNat 0 149 = a at *
        simp only [s283_93, s283_94, s283_97, s283_98, s283_99, s283_100, s283_101, s283_102, s283_105, s283_106, s283_107, s283_110, sx_push, tf, List.length_cons, List.length_nil, Option.some.injEq, exists_eq_left', Nat.reduceAdd, Nat.reduceLeDiff, true_and, and_true, true_or, or_true, Int.zero_add, Nat.zero_le, eq_self, ne_eq, not_true_eq_false, not_false_eq_true, false_implies, true_implies, implies_true, b2i_0, b2i_1, b2i_01, up_sc, sc_at, sc_sc, ite_true, ite_false, if_true, if_false, Nat.reduceEqDiff, reduceIte, rf]
        repeat' (first | intro _ | refine And.intro ?_ ?_)
        all_goals first | omega | exact hK
    simp only [s283_0, s283_1, s283_4, s283_5, s283_6, s283_9, s283_12, s283_13, s283_14, s283_17, s283_18, s283_21, s283_22, s283_23, s283_24, s283_27, s283_28, s283_31, s283_32, s283_33, s283_35, s283_38, s283_39, s283_40, s283_42, s283_43, s283_46, s283_47, s283_48, s283_49, s283_50, s283_53, s283_54, s283_55, s283_58, s283_59, s283_62, s283_63, s283_64, sx_push, tf, List.length_cons, List.length_nil, Option.some.injEq, exists_eq_left', Nat.reduceAdd, Nat.reduceLeDiff, true_and, and_true, true_or, or_true, Int.zero_add, Nat.zero_le, eq_self, ne_eq, not_true_eq_false, not_false_eq_true, false_implies, true_implies, implies_true, b2i_0, b2i_1, b2i_01, up_sc, sc_at, sc_sc, ite_true, ite_false, if_true, if_false, Nat.reduceEqDiff, reduceIte, x174, u6]
    repeat' (first | intro _ | refine And.intro ?_ ?_)
    all_goals first | omega | exact main
  · have hK := hKf (fun z => e1 z.1.1)
    by_cases l3 : 3 ≤ σ 149 8
    · have b0 := ht 0 (by omega) (by omega)
      have b1 := ht 1 (by omega) (by omega)
      unfold in8 at b0 b1
      simp only [s283_0, s283_1, s283_4, s283_5, s283_6, s283_9, s283_12, s283_13, s283_14, s283_17, s283_18, s283_21, s283_22, s283_23, s283_24, s283_27, s283_28, s283_31, s283_32, s283_33, s283_35, s283_38, s283_39, s283_40, s283_42, s283_43, s283_46, s283_47, s283_48, s283_49, s283_50, s283_53, s283_54, s283_55, s283_58, sx_push, tf, List.length_cons, List.length_nil, Option.some.injEq, exists_eq_left', Nat.reduceAdd, Nat.reduceLeDiff, true_and, and_true, true_or, or_true, Int.zero_add, Nat.zero_le, eq_self, ne_eq, not_true_eq_false, not_false_eq_true, false_implies, true_implies, implies_true, b2i_0, b2i_1, b2i_01, up_sc, sc_at, sc_sc, ite_true, ite_false, if_true, if_false, Nat.reduceEqDiff, reduceIte, x174, u6, rf]
      repeat' (first | intro _ | refine And.intro ?_ ?_)
      all_goals first | omega | exact hK
    · simp only [s283_0, s283_1, s283_4, s283_5, s283_6, s283_9, s283_12, s283_13, s283_14, s283_53, s283_54, s283_55, s283_58, sx_push, tf, List.length_cons, List.length_nil, Option.some.injEq, exists_eq_left', Nat.reduceAdd, Nat.reduceLeDiff, true_and, and_true, true_or, or_true, Int.zero_add, Nat.zero_le, eq_self, ne_eq, not_true_eq_false, not_false_eq_true, false_implies, true_implies, implies_true, b2i_0, b2i_1, b2i_01, up_sc, sc_at, sc_sc, ite_true, ite_false, if_true, if_false, Nat.reduceEqDiff, reduceIte, x174, u6, rf]
      repeat' (first | intro _ | refine And.intro ?_ ?_)
      all_goals first | omega | exact hK
theorem Rel_tr0 {σ σ' : sxS} (h : Rel c σ) (hk : ∀ k, ¬ scr k → k ≠ 150 → σ' k = σ k) (h149 : σ' 149 = σ 149) (h150 : agr (σ 150) (σ' 150)) (h4 : σ' 4 = σ 4) (h126 : σ' 126 = σ 126) : Rel c σ' ∧ σ' 0 = σ 0 := by
  have h' := h
  obtain ⟨hP, hO, hM, hH, hT, hR, hS, hF, hQ, hV, hI, hG, hW⟩ := h'
  refine ⟨Rel_pt h (Int.le_refl c) (fun k k1 k2 => hk k k1 (by unfold ptc at k2; omega)) (fun j _ _ => by rw [h149]) ?_ (rowOk_cg h150 hO) ?_ ?_ h4 h126 (hk 156 (by unfold scr; omega) (by omega)), hk 0 (by unfold scr; omega) (by omega)⟩
  · exact PT_cells (fun k k1 k2 => hk k (by unfold scr; omega) (by omega)) (PT_cg h150 hP)
  · rw [h149, hk 7 (by unfold scr; omega) (by omega)]
    unfold relM
    rw [← h150 480 (by omega) (by omega)]
    rcases hM with a | ⟨a1, a2, a3⟩
    · exact Or.inl a
    · exact Or.inr ⟨a1, a2, fun p p0 p1 => by rw [← h150 p p0 (by omega)]; exact a3 p p0 p1⟩
  · exact relH_cg hH (hk 17 (by unfold scr; omega) (by omega)) (fun k k1 k2 => hk k (by unfold scr; omega) (by omega)) (hk 151 (by unfold scr; omega) (by omega)) (by rw [h149]) (by rw [h149])
theorem cl45 (hc : c < 100000) : call2 n c 160 283 [some (vR 1), none] [some (vR 149), none, none, none] := fun σ h => by
  have h' := h
  obtain ⟨hP, hO, hM, hH, hT, hR, hS, hF, hQ, hV, hI, hG, hW⟩ := h'
  have rr := Rel_r h hc (w := 5) (by omega) (by omega)
  have m5 := hO.2.2.2
  have ti : ∀ j, 0 ≤ j → j < σ 149 8 → in8 (σ 154 j) := fun j a b => (hT.2.2 j a b).2
  have tpo : tpOk σ (σ 154) (σ 149 8) := ⟨hT.1, hT.2.1, fun j a b => ⟨(hT.2.2 j a b).1, (hT.2.2 j a b).2⟩⟩
  have Rt := Rel_tp h (Int.le_refl c)
  have Rf := Rel_ref Rt (w := 5) (by omega) (by omega)
  simp only [sc_at, Nat.reduceEqDiff, reduceIte] at Rf
  rcases hM with ⟨m1, m2⟩ | ⟨m1, m2, m3⟩
  · have zz : ∀ j, 0 ≤ j → j < 480 → g0F (σ 154) (σ 150) j = 0 := fun j j0 j1 => by unfold g0F; rw [up1_n (by omega)]; unfold cpF; rw [if_pos (by omega)]
    have z480 : g0F (σ 154) (σ 150) 480 = σ 154 0 := by unfold g0F; rw [up1_s]
    have cr := on_CR (t := σ 154) (len := σ 149 8) ti zz
    have first : Rn 161 0 [some (vR 12), some (vR 2), none, none, none, none, none] [] (T0 n) σ (fun r' T' σ' => Rn 160 22 [some (vR 1), none] (sx_push r' []) T' σ' (fun r T' σ1 => T' = T0 n ∧ ∃ v, r = some (vI v) ∧ Rn 283 0 [some (vR 149), none, none, none] [] (T0 n) σ1 (fun r2 T2 σ2 => T2 = T0 n ∧ r2 = some (vI v) ∧ Rel (c + 1) σ2 ∧ σ2 0 = σ 0))) := by
      refine x161 tpo zz z480 (fun on σ1 f1 tr => ?_) (fun no σ1 f1 => ?_)
      · have onr := cr.mp on
        generalize hG2 : gJ (σ 154) (σ 154 1).toNat 0 (g0F (σ 154) (σ 150)) = G at *
        have hd := onr.1.1
        have t1 := ti 1 (by omega) (by omega)
        have t0 := ti 0 (by omega) (by omega)
        unfold in8 at t0 t1
        have ok0 : rdOk (σ 154) (g0F (σ 154) (σ 150)) (-1) := fun p p0 p1 => by
          rw [zz p p0 (by omega), zz (40 + p) (by omega) (by omega), zz (80 + p) (by omega) (by omega), zz (120 + p) (by omega) (by omega)]
          exact ⟨Or.inl rfl, ⟨by omega, by omega⟩, ⟨by omega, by omega⟩, ⟨by omega, by omega⟩, fun z => by omega⟩
        have okG := rdOk_J (t := σ 154) (σ 154 1).toNat 0 (-1) (g0F (σ 154) (σ 150)) (by omega) (by omega) ok0 (fun j a b => ti j (by omega) (by omega)) onr.2.1
        have r0 : rtI (g0F (σ 154) (σ 150)) (-1) := ⟨Or.inl rfl, fun p p0 p1 hp => by have := zz p p0 (by omega); omega⟩
        have rI := rd_rt (t := σ 154) (σ 154 1).toNat 0 (-1) (-1) (g0F (σ 154) (σ 150)) (by omega) (by omega) ok0 (fun j a b => ti j (by omega) (by omega)) onr.2.1 r0 on.2.2.1
        have far := gJ_far (t := σ 154) (σ 154 1).toNat 0 (-1) (g0F (σ 154) (σ 150)) (by omega) onr.2.1
        rw [hG2] at okG rI
        have G480 : G 480 = σ 154 0 := by rw [← hG2, far 480 (by omega), z480]
        have Gn : ∀ j, 240 ≤ j → j < 480 → G j = 0 := fun j j0 j1 => by rw [← hG2, far j j0, zz j (by omega) j1]
        have nets : netsP G := by rw [← hG2]; exact onr.2.2.2
        have rowG : rowOk G := rowOk_on okG (by rw [G480]; omega) Gn nets.1 nets.2.1
        have root := rootF_on rI (fun p p0 p1 hp => ((okG p p0 p1).2.2.2.2 hp).1.2)
        have PTt : PT σ1 12 G := by
          refine ⟨⟨tr.1, tr.2.1, ?_, tr.2.2.2.2.2.2⟩, tr.2.2.1, fun p p0 p1 => ?_⟩
          · rw [root]; exact tr.2.2.2.2.2.1
          · have z16 : σ1 (12 + 4) p = 0 := tr.2.2.2.1 p p0 p1
            have nm : nmF G p = 0 := by
              unfold nmF
              rw [Gn _ (by omega) (by omega), Gn (240 + 6 * p + 1) (by omega) (by omega), Gn (240 + 6 * p + 2) (by omega) (by omega), Gn (240 + 6 * p + 3) (by omega) (by omega), Gn (240 + 6 * p + 4) (by omega) (by omega), Gn (240 + 6 * p + 5) (by omega) (by omega)]
              decide
            rw [z16, nm]
            exact ⟨fun _ => rfl, fun _ => rfl⟩
        simp only [s160_22, s160_25, s160_26, s160_29, s160_30, s160_31, s160_32, s160_35, s160_36, sx_push, tf, List.length_cons, List.length_nil, Option.some.injEq, exists_eq_left', Nat.reduceAdd, Nat.reduceLeDiff, true_and, and_true, true_or, or_true, Int.zero_add, Nat.zero_le, eq_self, ne_eq, not_true_eq_false, not_false_eq_true, false_implies, true_implies, implies_true, b2i_0, b2i_1, b2i_01, up_sc, sc_at, sc_sc, ite_true, ite_false, if_true, if_false, Nat.reduceEqDiff, reduceIte]
        repeat' (first | intro _ | refine And.intro ?_ ?_)
        all_goals first | omega | skip
        simp only [s160_39, s160_40, s160_51, s160_52, s160_55, s160_56, s160_59, sx_push, tf, List.length_cons, List.length_nil, Option.some.injEq, exists_eq_left', Nat.reduceAdd, Nat.reduceLeDiff, true_and, and_true, true_or, or_true, Int.zero_add, Nat.zero_le, eq_self, ne_eq, not_true_eq_false, not_false_eq_true, false_implies, true_implies, implies_true, b2i_0, b2i_1, b2i_01, up_sc, sc_at, sc_sc, ite_true, ite_false, if_true, if_false, Nat.reduceEqDiff, reduceIte, tp isP12]
        repeat' (first | intro _ | refine And.intro ?_ ?_)
        all_goals first | omega | skip
        refine x125 isP7 isP12 (by omega) (fun σ2 f2 c2 => ?_)
        have PT2 : PT σ2 7 G := PT_cpd c2 (PT_cells (fun k k1 k2 => by rw [sc_at, if_neg (by omega)]) PTt)
        have m2' : σ2 7 4 = G 480 := by
          rw [c2.2.1, sc_at, if_neg (by decide)]; exact tr.2.2.2.2.1
        have g2 : ∀ k, k ≠ 2 → (k < 7 ∨ 16 < k) → σ2 k = σ k := fun k k1 k2 => by
          rw [f2 k (by omega), sc_at, if_neg k1]; exact f1 k (by omega)
        have g22 : σ2 2 = up1 (σ 2) 1 0 := by
          rw [f2 2 (by omega), sc_at, if_pos rfl, f1 2 (by omega)]
        simp only [s160_62, s160_63, s160_66, sx_push, tf, List.length_cons, List.length_nil, Option.some.injEq, exists_eq_left', Nat.reduceAdd, Nat.reduceLeDiff, true_and, and_true, true_or, or_true, Int.zero_add, Nat.zero_le, eq_self, ne_eq, not_true_eq_false, not_false_eq_true, false_implies, true_implies, implies_true, b2i_0, b2i_1, b2i_01, up_sc, sc_at, sc_sc, ite_true, ite_false, if_true, if_false, Nat.reduceEqDiff, reduceIte]
        simp only [s43_0, s43_1, s43_2, s43_5, sx_push, tf, List.length_cons, List.length_nil, Option.some.injEq, exists_eq_left', Nat.reduceAdd, Nat.reduceLeDiff, true_and, and_true, true_or, or_true, Int.zero_add, Nat.zero_le, eq_self, ne_eq, not_true_eq_false, not_false_eq_true, false_implies, true_implies, implies_true, b2i_0, b2i_1, b2i_01, up_sc, sc_at, sc_sc, ite_true, ite_false, if_true, if_false, Nat.reduceEqDiff, reduceIte]
        repeat' (first | intro _ | refine And.intro ?_ ?_)
        all_goals first | omega | skip
        simp only [s160_69, s160_70, sx_push, tf, List.length_cons, List.length_nil, Option.some.injEq, exists_eq_left', Nat.reduceAdd, Nat.reduceLeDiff, true_and, and_true, true_or, or_true, Int.zero_add, Nat.zero_le, eq_self, ne_eq, not_true_eq_false, not_false_eq_true, false_implies, true_implies, implies_true, b2i_0, b2i_1, b2i_01, up_sc, sc_at, sc_sc, ite_true, ite_false, if_true, if_false, Nat.reduceEqDiff, reduceIte]
        refine ⟨_, rfl, ?_⟩
        have q : ∀ k, k ≠ 2 → k ≠ 17 → (k < 7 ∨ 16 < k) → sc σ2 17 (up1 (σ2 17) 2 0) k = σ k := fun k k1 k2 k3 => by
          rw [sc_at, if_neg k2]; exact g2 k k1 k3
        generalize hs3 : sc σ2 17 (up1 (σ2 17) 2 0) = σ3 at *
        have e149 : σ3 149 = σ 149 := q 149 (by decide) (by decide) (by decide)
        have e150 : σ3 150 = σ 150 := q 150 (by decide) (by decide) (by decide)
        have e154 : σ3 154 = σ 154 := q 154 (by decide) (by decide) (by decide)
        have e155 : σ3 155 = σ 155 := q 155 (by decide) (by decide) (by decide)
        have e17 : σ3 17 = up1 (σ 17) 2 0 := by rw [← hs3, sc_at, if_pos rfl, g2 17 (by decide) (by decide)]
        have e2 : σ3 2 = up1 (σ 2) 1 0 := by rw [← hs3, sc_at, if_neg (by decide), g22]
        have e7 : ∀ k, 7 ≤ k → k ≤ 11 → σ3 k = σ2 k := fun k k1 k2 => by rw [← hs3, sc_at, if_neg (by omega)]
        refine x283 (by rw [e149]; exact m1) (by rw [e149]; exact hT.2.1) (by rw [e149, e154]; exact ti) (by rw [e155]; exact rr.2) (fun on2 σ4 d1 d2 d3 => ?_) (fun no2 => ?_)
        · rw [e154, e150, hG2] at d3
          rw [e149] at d2
          refine ⟨rfl, rfl, Rel_pt Rt (by omega) (fun k k1 k2 => ?_) (fun j j1 j2 => ?_) ?_ ?_ ?_ ?_ ?_ ?_ ?_, ?_⟩
          · unfold scr at k1
            unfold ptc at k2
            rw [d1 k (by omega) (by omega) (by omega), sc_at, if_neg (by omega), sc_at]
            by_cases z : k = 2
            · rw [if_pos z, z, e2]
            · rw [if_neg z]; exact q k z (by omega) (by omega)
          · rw [d2, up1_n j1, sc_at, if_pos rfl]
          · rw [d3]
            exact PT_cells (fun k k1 k2 => by rw [d1 k (by omega) (by omega) (by omega), e7 k (by omega) (by omega)]) PT2
          · rw [d3]; exact rowG
          · rw [d3, d1 7 (by decide) (by decide) (by decide), e7 7 (by decide) (by decide)]
            exact Or.inl ⟨by rw [d2, up1_n (by omega), up1_n (by omega)]; exact m1, m2'⟩
          · have d17 : σ4 17 = up1 (σ 17) 2 0 := by rw [d1 17 (by decide) (by decide) (by decide), e17]
            have d4 : σ4 149 4 = 0 := by rw [d2, up1_s]
            have hx := hH.2.2.1
            refine ⟨?_, ?_, ?_, fun z => ?_, fun i i0 i1 => ?_⟩
            · rw [d17, d4, up1_s]
            · rw [d4]; omega
            · rw [d17, up1_n (by omega)]; exact hx
            · rw [d4] at z; omega
            · rw [d4] at i1; omega
          · rw [d1 4 (by decide) (by decide) (by decide), q 4 (by decide) (by decide) (by decide)]; simp [sc_at]
          · rw [d1 126 (by decide) (by decide) (by decide), q 126 (by decide) (by decide) (by decide)]; simp [sc_at]
          · rw [d1 156 (by decide) (by decide) (by decide), q 156 (by decide) (by decide) (by decide)]; simp [sc_at]
          · rw [d1 0 (by decide) (by decide) (by decide), q 0 (by decide) (by decide) (by decide)]
        · rw [e154, e150, e149] at no2; exact absurd onr no2
      · have nor : ¬ onR (σ 154) (g0F (σ 154) (σ 150)) (σ 149 8) := fun z => no (cr.mpr z)
        have e148 : σ1 148 = σ 148 := f1 148 (by omega)
        have x160f : ∀ K : Option sxV → sxT → sxS → Prop, K (some (vI 0)) (T0 n) (sc (sc σ1 2 (up1 (σ1 2) 1 0)) 148 (up1 (σ1 148) 5 (σ1 148 5 + 1))) → Rn 160 22 [some (vR 1), none] [vI 0] (T0 n) σ1 K := fun K hK => by
          have x12' := fun K => x12 (n := n) (σ := sc σ1 2 (up1 (σ1 2) 1 0)) (K := K) (w := 5) (by omega) (by omega) (by simp only [sc_at, Nat.reduceEqDiff, reduceIte]; rw [e148]; exact rr.1)
          simp only [sc_at, Nat.reduceEqDiff, reduceIte] at x12'
          simp only [s160_22, s160_25, s160_26, s160_29, s160_30, s160_31, s160_32, s160_35, s160_36, s160_39, s160_40, s160_43, s160_44, s160_45, s160_48, s160_49, s160_50, sx_push, tf, List.length_cons, List.length_nil, Option.some.injEq, exists_eq_left', Nat.reduceAdd, Nat.reduceLeDiff, true_and, and_true, true_or, or_true, Int.zero_add, Nat.zero_le, eq_self, ne_eq, not_true_eq_false, not_false_eq_true, false_implies, true_implies, implies_true, b2i_0, b2i_1, b2i_01, up_sc, sc_at, sc_sc, ite_true, ite_false, if_true, if_false, Nat.reduceEqDiff, reduceIte, x12']
          repeat' (first | intro _ | refine And.intro ?_ ?_)
          all_goals first | exact hK | omega
        refine x160f _ ⟨rfl, _, rfl, ?_⟩
        have q : ∀ k, k ≠ 2 → k ≠ 148 → (k < 12 ∨ 16 < k) → sc (sc σ1 2 (up1 (σ1 2) 1 0)) 148 (up1 (σ1 148) 5 (σ1 148 5 + 1)) k = σ k := fun k k1 k2 k3 => by
          rw [sc_at, if_neg k2, sc_at, if_neg k1]; exact f1 k (by omega)
        have e2 : sc (sc σ1 2 (up1 (σ1 2) 1 0)) 148 (up1 (σ1 148) 5 (σ1 148 5 + 1)) 2 = up1 (σ 2) 1 0 := by rw [sc_at, if_neg (by decide), sc_at, if_pos rfl, f1 2 (by omega)]
        have e8 : sc (sc σ1 2 (up1 (σ1 2) 1 0)) 148 (up1 (σ1 148) 5 (σ1 148 5 + 1)) 148 = up1 (σ 148) 5 (σ 148 5 + 1) := by rw [sc_at, if_pos rfl, e148]
        generalize sc (sc σ1 2 (up1 (σ1 2) 1 0)) 148 (up1 (σ1 148) 5 (σ1 148 5 + 1)) = σ3 at *
        have e149 : σ3 149 = σ 149 := q 149 (by decide) (by decide) (by decide)
        have e150 : σ3 150 = σ 150 := q 150 (by decide) (by decide) (by decide)
        have e154 : σ3 154 = σ 154 := q 154 (by decide) (by decide) (by decide)
        have e155 : σ3 155 = σ 155 := q 155 (by decide) (by decide) (by decide)
        refine x283 (by rw [e149]; exact m1) (by rw [e149]; exact hT.2.1) (by rw [e149, e154]; exact ti) (by rw [e155]; exact rr.2) (fun on2 => ?_) (fun no2 σ4 d1 d2 d3 d4 => ?_)
        · rw [e154, e150, e149] at on2; exact absurd on2 nor
        · rw [e149] at d2
          rw [e150] at d3
          rw [e155] at d4
          have Rn2 : Rel c (sc (sc σ 2 (up1 (σ 2) 1 0)) 149 (up1 (σ 149) 8 0)) := Rt
          have fin := Rel_tr0 (σ := sc (sc (sc (sc σ 2 (up1 (σ 2) 1 0)) 149 (up1 (σ 149) 8 0)) 148 (up1 (σ 148) 5 (σ 148 5 + 1))) 155 (up1 (σ 155) 5 (σ 155 5 + 1))) (σ' := σ4) (c := c + 1) Rf (fun k k1 k2 => ?_) ?_ ?_ ?_ ?_
          · exact ⟨rfl, rfl, fin.1, by rw [fin.2]; simp [sc_at]⟩
          · unfold scr at k1
            by_cases z5 : k = 155
            · rw [z5, d4]; simp [sc_at]
            · rw [d1 k (by omega) k2 (by omega) z5, sc_at, if_neg z5, sc_at]
              by_cases z8 : k = 148
              · rw [if_pos z8, z8, e8]
              · rw [if_neg z8, sc_at, if_neg (by omega), sc_at]
                by_cases z2 : k = 2
                · rw [if_pos z2, z2, e2]
                · rw [if_neg z2]; exact q k z2 z8 (by omega)
          · rw [d2]; simp [sc_at]
          · simpa [sc_at] using d3
          · rw [d1 4 (by decide) (by decide) (by decide) (by decide), q 4 (by decide) (by decide) (by decide)]; simp [sc_at]
          · rw [d1 126 (by decide) (by decide) (by decide) (by decide), q 126 (by decide) (by decide) (by decide)]; simp [sc_at]
    simp only [s160_0, s160_1, s160_4, s160_7, s160_8, s160_11, s160_12, s160_15, s160_16, s160_19, sx_push, tf, List.length_cons, List.length_nil, Option.some.injEq, exists_eq_left', Nat.reduceAdd, Nat.reduceLeDiff, true_and, and_true, true_or, or_true, Int.zero_add, Nat.zero_le, eq_self, ne_eq, not_true_eq_false, not_false_eq_true, false_implies, true_implies, implies_true, b2i_0, b2i_1, b2i_01, up_sc, sc_at, sc_sc, ite_true, ite_false, if_true, if_false, Nat.reduceEqDiff, reduceIte, m2]
    repeat' (first | intro _ | refine And.intro ?_ ?_)
    all_goals first | omega | exact first
  · have x160f : ∀ K : Option sxV → sxT → sxS → Prop, K (some (vI 0)) (T0 n) (sc (sc σ 2 (up1 (σ 2) 1 0)) 148 (up1 (σ 148) 5 (σ 148 5 + 1))) → Rn 160 0 [some (vR 1), none] [] (T0 n) σ K := fun K hK => by
      have x12' := fun K => x12 (n := n) (σ := sc σ 2 (up1 (σ 2) 1 0)) (K := K) (w := 5) (by omega) (by omega) (by simp only [sc_at, Nat.reduceEqDiff, reduceIte]; exact rr.1)
      simp only [sc_at, Nat.reduceEqDiff, reduceIte] at x12'
      simp only [s160_0, s160_1, s160_4, s160_7, s160_8, s160_29, s160_30, s160_31, s160_32, s160_35, s160_36, s160_39, s160_40, s160_43, s160_44, s160_45, s160_48, s160_49, s160_50, sx_push, tf, List.length_cons, List.length_nil, Option.some.injEq, exists_eq_left', Nat.reduceAdd, Nat.reduceLeDiff, true_and, and_true, true_or, or_true, Int.zero_add, Nat.zero_le, eq_self, ne_eq, not_true_eq_false, not_false_eq_true, false_implies, true_implies, implies_true, b2i_0, b2i_1, b2i_01, up_sc, sc_at, sc_sc, ite_true, ite_false, if_true, if_false, Nat.reduceEqDiff, reduceIte, x12', m2]
      repeat' (first | intro _ | refine And.intro ?_ ?_)
      all_goals first | exact hK | omega
    refine x160f _ ⟨rfl, _, rfl, ?_⟩
    have x283f : ∀ K : Option sxV → sxT → sxS → Prop, K (some (vI 0)) (T0 n) (sc (sc (sc (sc σ 2 (up1 (σ 2) 1 0)) 148 (up1 (σ 148) 5 (σ 148 5 + 1))) 149 (up1 (σ 149) 8 0)) 155 (up1 (σ 155) 5 (σ 155 5 + 1))) → Rn 283 0 [some (vR 149), none, none, none] [] (T0 n) (sc (sc σ 2 (up1 (σ 2) 1 0)) 148 (up1 (σ 148) 5 (σ 148 5 + 1))) K := fun K hK => by
      have rf := fun K => x172 (n := n) (σ := sc (sc (sc σ 2 (up1 (σ 2) 1 0)) 148 (up1 (σ 148) 5 (σ 148 5 + 1))) 149 (up1 (σ 149) 8 0)) (w := 5) (K := K) (by omega) (by omega) (by simpa [sc_at] using rr.2)
      simp only [sc_at, Nat.reduceEqDiff, reduceIte] at rf
      have u6 : up1 (σ 149) 8 0 6 = 0 := by rw [up1_n (by omega)]; exact m1
      simp only [s283_0, s283_1, s283_4, s283_5, s283_6, s283_9, s283_53, s283_54, s283_55, s283_58, sx_push, tf, List.length_cons, List.length_nil, Option.some.injEq, exists_eq_left', Nat.reduceAdd, Nat.reduceLeDiff, true_and, and_true, true_or, or_true, Int.zero_add, Nat.zero_le, eq_self, ne_eq, not_true_eq_false, not_false_eq_true, false_implies, true_implies, implies_true, b2i_0, b2i_1, b2i_01, up_sc, sc_at, sc_sc, ite_true, ite_false, if_true, if_false, Nat.reduceEqDiff, reduceIte, x174, u6, rf]
      repeat' (first | intro _ | refine And.intro ?_ ?_)
      all_goals first | exact hK | omega
    refine x283f _ ⟨rfl, rfl, ?_, by simp [sc_at]⟩
    rw [sc_comm _ _ _ (show 149 ≠ 148 by decide)] at Rf
    exact Rf
end O5
