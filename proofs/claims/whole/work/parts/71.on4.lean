/-! images: the methods of the class -/
def tpOk (σ : sxS) (t : Int → Int) (l : Int) : Prop := σ 2 1 = l ∧ (0 ≤ l ∧ l ≤ 1600) ∧ ∀ j, 0 ≤ j → j < l → σ 3 j = t j ∧ in8 (t j)
theorem tpOk_k {σ σ' : sxS} {t : Int → Int} {l : Int} (h : tpOk σ t l) (hk : ∀ k, k < 12 → σ' k = σ k) : tpOk σ' t l := by
  unfold tpOk
  rw [hk 2 (by decide), hk 3 (by decide)]; exact h
section O4
variable {n : Nat} {c : Int} {σ : sxS} {K : Option sxV → sxT → sxS → Prop} {t g : Int → Int} {len : Int}
theorem x20t (h : tpOk σ t len) {i : Int} (i0 : 0 ≤ i) (i1 : i < len) (K : Option sxV → sxT → sxS → Prop) : Rn 20 0 [some (vR 2), some (vI i)] [] (T0 n) σ K ↔ K (some (vI (t i))) (T0 n) σ := by
  obtain ⟨h1, h2, h3⟩ := h
  rw [x20, if_pos (by omega), (h3 i i0 i1).1]
theorem x162l (h : tpOk σ t len) (hl : 1 ≤ len) : ∀ (m : Nat) (i d : Int), i + m = len - 1 → 0 ≤ i → 0 ≤ d → d ≤ 251 → Rn 162 32 [some (vR 2), some (vI (ckT t m i d)), some (vI (len - 1))] [] (T0 n) σ K → Rn 162 6 [some (vR 2), some (vI d), some (vI i)] [] (T0 n) σ K := by
  have h' := h
  obtain ⟨h1, h2, h3⟩ := h'
  intro m
  induction m with
  | zero =>
    intro i d hi i0 d0 d1 hK
    obtain rfl : i = len - 1 := by omega
    rw [s162_6]
    simp only [s162_7, s162_8, s162_9, s162_10, s162_13, sx_push, tf, List.length_cons, List.length_nil, Option.some.injEq, exists_eq_left', Nat.reduceAdd, Nat.reduceLeDiff, true_and, and_true, true_or, or_true, Int.zero_add, Nat.zero_le, eq_self, ne_eq, not_true_eq_false, not_false_eq_true, false_implies, true_implies, implies_true, b2i_0, b2i_1, b2i_01, up_sc, sc_at, sc_sc, ite_true, ite_false, if_true, if_false, Nat.reduceEqDiff, reduceIte, h1]
    repeat' (first | intro _ | refine And.intro ?_ ?_)
    all_goals first | omega | exact hK
  | succ m ih =>
    intro i d hi i0 d0 d1 hK
    have b := (h3 i i0 (by omega)).2
    unfold in8 at b
    unfold ckT at hK
    rw [s162_6]
    simp only [s162_7, s162_8, s162_9, s162_10, s162_13, s162_16, s162_17, s162_18, s162_19, s162_22, s162_25, s162_26, s162_29, sx_push, tf, List.length_cons, List.length_nil, Option.some.injEq, exists_eq_left', Nat.reduceAdd, Nat.reduceLeDiff, true_and, and_true, true_or, or_true, Int.zero_add, Nat.zero_le, eq_self, ne_eq, not_true_eq_false, not_false_eq_true, false_implies, true_implies, implies_true, b2i_0, b2i_1, b2i_01, up_sc, sc_at, sc_sc, ite_true, ite_false, if_true, if_false, Nat.reduceEqDiff, reduceIte, h1, x20t h i0 (show i < len by omega), x158 (n := n) (show 0 ≤ d ∧ d ≤ 1000 by omega) (show 0 ≤ t i ∧ t i ≤ 1000 by omega)]
    have main := ih (i + 1) ((3 * d + t i) % 251) (by omega) (by omega) (by omega) (by omega) hK
    repeat' (first | intro _ | refine And.intro ?_ ?_)
    all_goals first | omega | exact main
theorem x162 (h : tpOk σ t len) (hl : 1 ≤ len) (K : Option sxV → sxT → sxS → Prop) : Rn 162 0 [some (vR 2), none, none] [] (T0 n) σ K ↔ K (some (vI (b2i (ckT t (len - 1).toNat 0 149 = t (len - 1))))) (T0 n) σ := by
  refine Rn_iff fun K hK => ?_
  simp only [s162_0, s162_3, s162_4, s162_5, sx_push, tf, List.length_cons, List.length_nil, Option.some.injEq, exists_eq_left', Nat.reduceAdd, Nat.reduceLeDiff, true_and, and_true, true_or, or_true, Int.zero_add, Nat.zero_le, eq_self, ne_eq, not_true_eq_false, not_false_eq_true, false_implies, true_implies, implies_true, b2i_0, b2i_1, b2i_01, up_sc, sc_at, sc_sc, ite_true, ite_false, if_true, if_false, Nat.reduceEqDiff, reduceIte]
  refine x162l h hl (len - 1).toNat 0 149 (by omega) (by omega) (by omega) (by omega) ?_
  have b := (h.2.2 (len - 1) (by omega) (by omega)).2
  unfold in8 at b
  have h1 := h.1
  have h2 := h.2.1
  generalize ckT t (len - 1).toNat 0 149 = a at *
  by_cases e : a = t (len - 1)
  · rw [b2i_t e] at hK
    simp only [s162_32, s162_33, s162_34, s162_35, s162_38, s162_39, s162_40, s162_43, s162_46, s162_47, s162_50, s162_51, sx_push, tf, List.length_cons, List.length_nil, Option.some.injEq, exists_eq_left', Nat.reduceAdd, Nat.reduceLeDiff, true_and, and_true, true_or, or_true, Int.zero_add, Nat.zero_le, eq_self, ne_eq, not_true_eq_false, not_false_eq_true, false_implies, true_implies, implies_true, b2i_0, b2i_1, b2i_01, up_sc, sc_at, sc_sc, ite_true, ite_false, if_true, if_false, Nat.reduceEqDiff, reduceIte, h1, x20t h (show 0 ≤ len - 1 by omega) (show len - 1 < len by omega)]
    repeat' (first | intro _ | refine And.intro ?_ ?_)
    all_goals first | omega | exact hK
  · rw [b2i_f e] at hK
    simp only [s162_32, s162_33, s162_34, s162_35, s162_38, s162_39, s162_40, s162_43, s162_46, s162_47, s162_50, s162_51, sx_push, tf, List.length_cons, List.length_nil, Option.some.injEq, exists_eq_left', Nat.reduceAdd, Nat.reduceLeDiff, true_and, and_true, true_or, or_true, Int.zero_add, Nat.zero_le, eq_self, ne_eq, not_true_eq_false, not_false_eq_true, false_implies, true_implies, implies_true, b2i_0, b2i_1, b2i_01, up_sc, sc_at, sc_sc, ite_true, ite_false, if_true, if_false, Nat.reduceEqDiff, reduceIte, h1, x20t h (show 0 ≤ len - 1 by omega) (show len - 1 < len by omega)]
    repeat' (first | intro _ | refine And.intro ?_ ?_)
    all_goals first | omega | exact hK
/-- points read so far -/
def trO (σ : sxS) (g : Int → Int) (r : Int) : Prop := rL σ 12 g ∧ rP σ 12 g ∧ rB σ 12 g ∧ (∀ j, 0 ≤ j → j < 40 → σ 16 j = 0) ∧ σ 12 4 = g 480 ∧ σ 12 5 = r ∧ σ 12 6 = cntF g 40 0 0
def ptOk (t : Int → Int) (r b : Int) : Prop := (t b ≤ 39 ∧ t (b + 4) ≤ 10) ∧ (t (b + 4) = 10 → r = -1 ∧ t (b + 5) = 255)
theorem x163 (h : tpOk σ t len) {b r : Int} (b0 : 0 ≤ b) (b1 : b + 5 < len) (h5 : σ 12 5 = r) (h6 : 0 ≤ σ 12 6 ∧ σ 12 6 ≤ 40) (hK1 : ptOk t r b → ∀ σ', fr σ σ' 12 16 → σ' 13 = up1 (σ 13) (t b) (pk (t (b + 1)) (t (b + 2)) (t (b + 3))) → σ' 14 = up1 (σ 14) (t b) (t (b + 4)) → σ' 15 = up1 (σ 15) (t b) (if t (b + 5) = 255 then -1 else t (b + 5)) → σ' 16 = σ 16 → σ' 12 4 = σ 12 4 → σ' 12 5 = (if t (b + 4) = 10 then t b else r) → σ' 12 6 = σ 12 6 + 1 → K (some (vI 1)) (T0 n) σ') (hK0 : ¬ ptOk t r b → ∀ σ', fr σ σ' 12 16 → K (some (vI 0)) (T0 n) σ') : Rn 163 0 [some (vR 12), some (vR 2), some (vI b), none, none, none] [] (T0 n) σ K := by
  have y : ∀ d, 0 ≤ d → d ≤ 5 → in8 (t (b + d)) := fun d d0 d1 => (h.2.2 (b + d) (by omega) (by omega)).2
  have y0 := y 0 (by omega) (by omega)
  rw [Int.add_zero] at y0
  have y1 := y 1 (by omega) (by omega)
  have y2 := y 2 (by omega) (by omega)
  have y3 := y 3 (by omega) (by omega)
  have y4 := y 4 (by omega) (by omega)
  have y5 := y 5 (by omega) (by omega)
  have pl : plc (t (b + 1)) (t (b + 2)) (t (b + 3)) = pk (t (b + 1)) (t (b + 2)) (t (b + 3)) := if_pos ⟨y1, y2, y3⟩
  have len1 := h.2.1
  unfold in8 at y0 y4 y5
  by_cases e1 : t b ≤ 39 ∧ t (b + 4) ≤ 10
  · have go : ∀ v, v = (if t (b + 5) = 255 then -1 else t (b + 5)) → Rn 163 101 [some (vR 12), some (vR 2), some (vI b), some (vI (t b)), some (vI (t (b + 4))), some (vI (t (b + 5)))] [vI v, vI (t b), vR 15] (T0 n) (sc (sc σ 13 (up1 (σ 13) (t b) (pk (t (b + 1)) (t (b + 2)) (t (b + 3))))) 14 (up1 (σ 14) (t b) (t (b + 4)))) K := fun v hv => by
      by_cases e10 : t (b + 4) = 10
      · rw [if_pos e10] at hK1
        by_cases e5 : r = -1 ∧ t (b + 5) = 255
        · have hK := hK1 ⟨e1, fun _ => e5⟩ (sc (sc (sc (sc σ 13 (up1 (σ 13) (t b) (pk (t (b + 1)) (t (b + 2)) (t (b + 3))))) 14 (up1 (σ 14) (t b) (t (b + 4)))) 15 (up1 (σ 15) (t b) v)) 12 (up1 (up1 (σ 12) 6 (σ 12 6 + 1)) 5 (t b))) (fr_sc (fr_sc (fr_sc (fr_sc fr_rfl (by omega) (by omega)) (by omega) (by omega)) (by omega) (by omega)) (by omega) (by omega)) (by simp [sc_at]) (by simp [sc_at]) (by rw [← hv]; simp [sc_at]) (by simp [sc_at]) (by simp [sc_at, up1]) (by simp [sc_at, up1]) (by simp [sc_at, up1])
          simp only [s163_101, s163_102, s163_103, s163_104, s163_107, s163_108, s163_109, s163_112, s163_114, s163_116, s163_119, s163_120, s163_123, s163_124, s163_127, s163_129, s163_132, s163_135, s163_136, s163_137, s163_138, s163_139, s163_142, s163_143, sx_push, tf, List.length_cons, List.length_nil, Option.some.injEq, exists_eq_left', Nat.reduceAdd, Nat.reduceLeDiff, true_and, and_true, true_or, or_true, Int.zero_add, Nat.zero_le, eq_self, ne_eq, not_true_eq_false, not_false_eq_true, false_implies, true_implies, implies_true, b2i_0, b2i_1, b2i_01, up_sc, sc_at, sc_sc, ite_true, ite_false, if_true, if_false, Nat.reduceEqDiff, reduceIte, tp isP12, h5, e5.1, e5.2, e10, up1_n (show (5 : Int) ≠ 6 by omega)]
          repeat' (first | intro _ | refine And.intro ?_ ?_)
          all_goals first | omega | (simp only [e10] at hK; exact hK)
        · have hK := fun σ' => hK0 (fun z => e5 (z.2 e10)) σ'
          simp only [s163_101, s163_102, s163_103, s163_104, s163_107, s163_108, s163_109, s163_112, s163_114, s163_116, s163_119, s163_120, s163_123, s163_124, s163_127, s163_129, s163_132, s163_135, s163_136, sx_push, tf, List.length_cons, List.length_nil, Option.some.injEq, exists_eq_left', Nat.reduceAdd, Nat.reduceLeDiff, true_and, and_true, true_or, or_true, Int.zero_add, Nat.zero_le, eq_self, ne_eq, not_true_eq_false, not_false_eq_true, false_implies, true_implies, implies_true, b2i_0, b2i_1, b2i_01, up_sc, sc_at, sc_sc, ite_true, ite_false, if_true, if_false, Nat.reduceEqDiff, reduceIte, tp isP12, h5, e10, up1_n (show (5 : Int) ≠ 6 by omega)]
          repeat' (first | intro _ | refine And.intro ?_ ?_)
          all_goals first | omega | exact hK _ (fr_sc (fr_sc (fr_sc (fr_sc fr_rfl (by omega) (by omega)) (by omega) (by omega)) (by omega) (by omega)) (by omega) (by omega))
      · rw [if_neg e10] at hK1
        have hK := hK1 ⟨e1, fun z => absurd z e10⟩ (sc (sc (sc (sc σ 13 (up1 (σ 13) (t b) (pk (t (b + 1)) (t (b + 2)) (t (b + 3))))) 14 (up1 (σ 14) (t b) (t (b + 4)))) 15 (up1 (σ 15) (t b) v)) 12 (up1 (σ 12) 6 (σ 12 6 + 1))) (fr_sc (fr_sc (fr_sc (fr_sc fr_rfl (by omega) (by omega)) (by omega) (by omega)) (by omega) (by omega)) (by omega) (by omega)) (by simp [sc_at]) (by simp [sc_at]) (by rw [← hv]; simp [sc_at]) (by simp [sc_at]) (by simp [sc_at, up1]) (by simp [sc_at, up1, h5]) (by simp [sc_at, up1])
        simp only [s163_101, s163_102, s163_103, s163_104, s163_107, s163_108, s163_109, s163_112, s163_114, s163_116, s163_142, s163_143, sx_push, tf, List.length_cons, List.length_nil, Option.some.injEq, exists_eq_left', Nat.reduceAdd, Nat.reduceLeDiff, true_and, and_true, true_or, or_true, Int.zero_add, Nat.zero_le, eq_self, ne_eq, not_true_eq_false, not_false_eq_true, false_implies, true_implies, implies_true, b2i_0, b2i_1, b2i_01, up_sc, sc_at, sc_sc, ite_true, ite_false, if_true, if_false, Nat.reduceEqDiff, reduceIte, tp isP12]
        repeat' (first | intro _ | refine And.intro ?_ ?_)
        all_goals first | omega | exact hK
    simp only [s163_0, s163_1, s163_2, s163_5, s163_6, s163_7, s163_8, s163_9, s163_10, s163_13, s163_15, s163_16, s163_17, s163_18, s163_19, s163_22, s163_24, s163_25, s163_28, s163_29, s163_31, s163_34, s163_36, s163_39, s163_42, s163_43, s163_44, s163_45, s163_48, s163_49, s163_50, s163_51, s163_52, s163_53, s163_56, s163_57, s163_58, s163_59, s163_60, s163_63, s163_64, s163_65, s163_66, s163_67, s163_70, s163_73, s163_74, s163_75, s163_78, s163_79, s163_81, s163_82, s163_83, s163_86, s163_87, s163_89, s163_92, s163_95, s163_96, s163_99, sx_push, tf, List.length_cons, List.length_nil, Option.some.injEq, exists_eq_left', Nat.reduceAdd, Nat.reduceLeDiff, true_and, and_true, true_or, or_true, Int.zero_add, Nat.zero_le, eq_self, ne_eq, not_true_eq_false, not_false_eq_true, false_implies, true_implies, implies_true, b2i_0, b2i_1, b2i_01, up_sc, sc_at, sc_sc, ite_true, ite_false, if_true, if_false, Nat.reduceEqDiff, reduceIte, x20t h b0 (show b < len by omega), x20t h (show 0 ≤ b + 1 by omega) (show b + 1 < len by omega), x20t h (show 0 ≤ b + 2 by omega) (show b + 2 < len by omega), x20t h (show 0 ≤ b + 3 by omega) (show b + 3 < len by omega), x20t h (show 0 ≤ b + 4 by omega) (show b + 4 < len by omega), x20t h (show 0 ≤ b + 5 by omega) (show b + 5 < len by omega), x64, x33, pl, tp isP12]
    repeat' (first | intro _ | refine And.intro ?_ ?_)
    all_goals first | omega | (exact go _ (by rw [if_pos (by assumption)])) | (exact go _ (by rw [if_neg (by assumption)]))
  · have hK := hK0 (fun z => e1 z.1) σ fr_rfl
    simp only [s163_0, s163_1, s163_2, s163_5, s163_6, s163_7, s163_8, s163_9, s163_10, s163_13, s163_15, s163_16, s163_17, s163_18, s163_19, s163_22, s163_24, s163_25, s163_28, s163_29, s163_31, s163_34, s163_36, s163_39, s163_42, s163_43, sx_push, tf, List.length_cons, List.length_nil, Option.some.injEq, exists_eq_left', Nat.reduceAdd, Nat.reduceLeDiff, true_and, and_true, true_or, or_true, Int.zero_add, Nat.zero_le, eq_self, ne_eq, not_true_eq_false, not_false_eq_true, false_implies, true_implies, implies_true, b2i_0, b2i_1, b2i_01, up_sc, sc_at, sc_sc, ite_true, ite_false, if_true, if_false, Nat.reduceEqDiff, reduceIte, x20t h b0 (show b < len by omega), x20t h (show 0 ≤ b + 4 by omega) (show b + 4 < len by omega), x20t h (show 0 ≤ b + 5 by omega) (show b + 5 < len by omega), x64]
    repeat' (first | intro _ | refine And.intro ?_ ?_)
    all_goals first | omega | exact hK
theorem rL12 (hr : rL σ 12 g) : ∀ p, 0 ≤ p → p < 40 → (g p = 1 ∧ σ 14 p = g (160 + p) ∧ 0 ≤ g (160 + p) ∧ g (160 + p) ≤ 10 ∧ σ 13 p = pk (g (40 + p)) (g (80 + p)) (g (120 + p)) ∧ σ 12 4 = g 480) ∨ (g p = 0 ∧ σ 14 p < 0) := hr
theorem rP12 (hp : rP σ 12 g) : ∀ p, 0 ≤ p → p < 40 → g p = 1 → σ 15 p = g (200 + p) := hp
theorem x164l (hr : rL σ 12 g) (hp : rP σ 12 g) (hw : wfc g) {r : Int} (h5 : σ 12 5 = r) : ∀ (k : Nat) (p : Int) (u v : Option sxV), p + k = 40 → 0 ≤ p → ((∀ q, p ≤ q → q < 40 → g q = 1 → q ≠ r → cvP g q) → K (some (vI 1)) (T0 n) σ) → ((∃ q, p ≤ q ∧ q < 40 ∧ g q = 1 ∧ q ≠ r ∧ ¬ cvP g q) → K (some (vI 0)) (T0 n) σ) → Rn 164 19 [some (vR 12), some (vI p), u, v] [] (T0 n) σ K := by
  intro k
  induction k with
  | zero =>
    intro p u v hk p0 hK1 hK0
    have hK := hK1 (fun q q0 q1 => by omega)
    rw [s164_19]
    simp only [s164_20, s164_22, s164_95, s164_96, sx_push, tf, List.length_cons, List.length_nil, Option.some.injEq, exists_eq_left', Nat.reduceAdd, Nat.reduceLeDiff, true_and, and_true, true_or, or_true, Int.zero_add, Nat.zero_le, eq_self, ne_eq, not_true_eq_false, not_false_eq_true, false_implies, true_implies, implies_true, b2i_0, b2i_1, b2i_01, up_sc, sc_at, sc_sc, ite_true, ite_false, if_true, if_false, Nat.reduceEqDiff, reduceIte]
    repeat' (first | intro _ | refine And.intro ?_ ?_)
    all_goals first | omega | exact hK
  | succ k ih =>
    intro p u v hk p0 hK1 hK0
    have p1 : p < 40 := by omega
    have nx : (g p = 1 → p ≠ r → cvP g p) → (∀ q, p + 1 ≤ q → q < 40 → g q = 1 → q ≠ r → cvP g q) → ∀ q, p ≤ q → q < 40 → g q = 1 → q ≠ r → cvP g q := fun h h2 q q0 q1 hq hr => by
      by_cases z : q = p
      · rw [z] at hq hr ⊢; exact h hq hr
      · exact h2 q (by omega) q1 hq hr
    have nx0 : (∃ q, p + 1 ≤ q ∧ q < 40 ∧ g q = 1 ∧ q ≠ r ∧ ¬ cvP g q) → K (some (vI 0)) (T0 n) σ := fun ⟨q, q0, q1, q2⟩ => hK0 ⟨q, by omega, q1, q2⟩
    rw [s164_19]
    rcases rL12 hr p p0 p1 with ⟨c1, c2, c3, c4, c5, c6⟩ | ⟨c1, c2⟩
    · by_cases er : p = r
      · have main := fun u v => ih (p + 1) u v (by omega) (by omega) (fun h => hK1 (nx (fun _ z => absurd er z) h)) nx0
        simp only [s164_20, s164_22, s164_25, s164_26, s164_27, s164_30, s164_33, s164_34, s164_35, s164_38, s164_89, s164_92, sx_push, tf, List.length_cons, List.length_nil, Option.some.injEq, exists_eq_left', Nat.reduceAdd, Nat.reduceLeDiff, true_and, and_true, true_or, or_true, Int.zero_add, Nat.zero_le, eq_self, ne_eq, not_true_eq_false, not_false_eq_true, false_implies, true_implies, implies_true, b2i_0, b2i_1, b2i_01, up_sc, sc_at, sc_sc, ite_true, ite_false, if_true, if_false, Nat.reduceEqDiff, reduceIte, tp isP12, x49 isP12 hr, h5]
        repeat' (first | intro _ | refine And.intro ?_ ?_)
        all_goals first | omega | exact main _ _
      · have d2 := rP12 hp p p0 p1 c1
        by_cases ec : cvP g p
        · have main := fun u v => ih (p + 1) u v (by omega) (by omega) (fun h => hK1 (nx (fun _ _ => ec) h)) nx0
          have ec' := ec
          obtain ⟨⟨e1, e2⟩, e3, e4⟩ := ec'
          have lq : σ 14 (g (200 + p)) = g (160 + g (200 + p)) := rL_v hr _ e1.1 e1.2 e2
          have lq2 : g (160 + g (200 + p)) ≤ 10 := by
            rcases rL12 hr _ e1.1 e1.2 with z | z
            · exact z.2.2.2.1
            · omega
          have pw := pw_in (k := g (160 + p)) (by omega) (by omega)
          rw [← pw_S c3] at e4
          have pw2 := pw_in (k := g (160 + p) + 1) (by omega) (by omega)
          simp only [s164_20, s164_22, s164_25, s164_26, s164_27, s164_30, s164_33, s164_34, s164_35, s164_38, s164_41, s164_42, s164_45, s164_46, s164_47, s164_48, s164_49, s164_52, s164_53, s164_54, s164_55, s164_56, s164_57, s164_58, s164_59, s164_62, s164_65, s164_66, s164_69, s164_70, s164_71, s164_72, s164_75, s164_76, s164_77, s164_78, s164_81, s164_82, s164_83, s164_84, s164_87, s164_88, s164_89, s164_92, sx_push, tf, List.length_cons, List.length_nil, Option.some.injEq, exists_eq_left', Nat.reduceAdd, Nat.reduceLeDiff, true_and, and_true, true_or, or_true, Int.zero_add, Nat.zero_le, eq_self, ne_eq, not_true_eq_false, not_false_eq_true, false_implies, true_implies, implies_true, b2i_0, b2i_1, b2i_01, up_sc, sc_at, sc_sc, ite_true, ite_false, if_true, if_false, Nat.reduceEqDiff, reduceIte, tp isP12, x49 isP12 hr, h5, c2, d2, lq, x62o isP12 hr hw p0 p1 c1 e1.1 e1.2 e2, Int.one_mul]
          repeat' (first | intro _ | refine And.intro ?_ ?_)
          all_goals first | omega | exact main _ _
        · have hK := hK0 ⟨p, Int.le_refl p, p1, c1, er, ec⟩
          by_cases e1 : (0 ≤ g (200 + p) ∧ g (200 + p) < 40) ∧ g (g (200 + p)) = 1
          · have lq : σ 14 (g (200 + p)) = g (160 + g (200 + p)) := rL_v hr _ e1.1.1 e1.1.2 e1.2
            have lq2 : g (160 + g (200 + p)) ≤ 10 := by
              rcases rL12 hr _ e1.1.1 e1.1.2 with z | z
              · exact z.2.2.2.1
              · omega
            by_cases e3 : g (160 + p) < g (160 + g (200 + p))
            · have e4 : ¬ farO g p (g (200 + p)) < 2 * 2 ^ (g (160 + p)).toNat := fun z => ec ⟨e1, e3, z⟩
              rw [← pw_S c3] at e4
              have pw2 := pw_in (k := g (160 + p) + 1) (by omega) (by omega)
              simp only [s164_20, s164_22, s164_25, s164_26, s164_27, s164_30, s164_33, s164_34, s164_35, s164_38, s164_41, s164_42, s164_45, s164_46, s164_47, s164_48, s164_49, s164_52, s164_53, s164_54, s164_55, s164_56, s164_57, s164_58, s164_59, s164_62, s164_65, s164_66, s164_69, s164_70, s164_71, s164_72, s164_75, s164_76, s164_77, s164_78, s164_81, s164_82, s164_83, s164_84, s164_87, s164_88, sx_push, tf, List.length_cons, List.length_nil, Option.some.injEq, exists_eq_left', Nat.reduceAdd, Nat.reduceLeDiff, true_and, and_true, true_or, or_true, Int.zero_add, Nat.zero_le, eq_self, ne_eq, not_true_eq_false, not_false_eq_true, false_implies, true_implies, implies_true, b2i_0, b2i_1, b2i_01, up_sc, sc_at, sc_sc, ite_true, ite_false, if_true, if_false, Nat.reduceEqDiff, reduceIte, tp isP12, x49 isP12 hr, h5, c2, d2, lq, x62o isP12 hr hw p0 p1 c1 e1.1.1 e1.1.2 e1.2, Int.one_mul]
              repeat' (first | intro _ | refine And.intro ?_ ?_)
              all_goals first | omega | exact hK
            · simp only [s164_20, s164_22, s164_25, s164_26, s164_27, s164_30, s164_33, s164_34, s164_35, s164_38, s164_41, s164_42, s164_45, s164_46, s164_47, s164_48, s164_49, s164_52, s164_53, s164_54, s164_55, s164_56, s164_57, s164_58, s164_59, s164_62, s164_65, s164_66, s164_69, s164_70, s164_71, s164_72, s164_87, s164_88, sx_push, tf, List.length_cons, List.length_nil, Option.some.injEq, exists_eq_left', Nat.reduceAdd, Nat.reduceLeDiff, true_and, and_true, true_or, or_true, Int.zero_add, Nat.zero_le, eq_self, ne_eq, not_true_eq_false, not_false_eq_true, false_implies, true_implies, implies_true, b2i_0, b2i_1, b2i_01, up_sc, sc_at, sc_sc, ite_true, ite_false, if_true, if_false, Nat.reduceEqDiff, reduceIte, tp isP12, x49 isP12 hr, h5, c2, d2, lq]
              repeat' (first | intro _ | refine And.intro ?_ ?_)
              all_goals first | omega | exact hK
          · simp only [s164_20, s164_22, s164_25, s164_26, s164_27, s164_30, s164_33, s164_34, s164_35, s164_38, s164_41, s164_42, s164_45, s164_46, s164_47, s164_48, s164_49, s164_52, s164_53, s164_54, s164_55, s164_56, s164_57, s164_58, s164_59, s164_62, s164_87, s164_88, sx_push, tf, List.length_cons, List.length_nil, Option.some.injEq, exists_eq_left', Nat.reduceAdd, Nat.reduceLeDiff, true_and, and_true, true_or, or_true, Int.zero_add, Nat.zero_le, eq_self, ne_eq, not_true_eq_false, not_false_eq_true, false_implies, true_implies, implies_true, b2i_0, b2i_1, b2i_01, up_sc, sc_at, sc_sc, ite_true, ite_false, if_true, if_false, Nat.reduceEqDiff, reduceIte, tp isP12, x49 isP12 hr, h5, c2, d2]
            repeat' (first | intro _ | refine And.intro ?_ ?_)
            all_goals first | omega | exact hK
    · have main := fun u v => ih (p + 1) u v (by omega) (by omega) (fun h => hK1 (nx (fun z => by omega) h)) nx0
      simp only [s164_20, s164_22, s164_25, s164_26, s164_27, s164_30, s164_89, s164_92, sx_push, tf, List.length_cons, List.length_nil, Option.some.injEq, exists_eq_left', Nat.reduceAdd, Nat.reduceLeDiff, true_and, and_true, true_or, or_true, Int.zero_add, Nat.zero_le, eq_self, ne_eq, not_true_eq_false, not_false_eq_true, false_implies, true_implies, implies_true, b2i_0, b2i_1, b2i_01, up_sc, sc_at, sc_sc, ite_true, ite_false, if_true, if_false, Nat.reduceEqDiff, reduceIte, tp isP12, x49 isP12 hr]
      repeat' (first | intro _ | refine And.intro ?_ ?_)
      all_goals first | omega | exact main _ _
def covP (g : Int → Int) (r : Int) : Prop := (0 < cntF g 40 0 0 → r ≠ -1) ∧ ∀ q, 0 ≤ q → q < 40 → g q = 1 → q ≠ r → cvP g q
theorem x164 {r : Int} (h : trO σ g r) (hw : wfc g) (hK1 : covP g r → K (some (vI 1)) (T0 n) σ) (hK0 : ¬ covP g r → K (some (vI 0)) (T0 n) σ) : Rn 164 0 [some (vR 12), none, none, none] [] (T0 n) σ K := by
  obtain ⟨h1, h2, h3, h4, h5, h6, h7⟩ := h
  by_cases e : 0 < cntF g 40 0 0 → r ≠ -1
  · have main := x164l (n := n) h1 h2 hw h6 40 0 none none (by omega) (by omega) (fun z => hK1 ⟨e, z⟩) (fun ⟨q, q0, q1, q2, q3, q4⟩ => hK0 (fun z => q4 (z.2 q q0 q1 q2 q3)))
    generalize cntF g 40 0 0 = a at *
    simp only [s164_0, s164_1, s164_4, s164_7, s164_8, s164_11, s164_12, s164_17, s164_18, sx_push, tf, List.length_cons, List.length_nil, Option.some.injEq, exists_eq_left', Nat.reduceAdd, Nat.reduceLeDiff, true_and, and_true, true_or, or_true, Int.zero_add, Nat.zero_le, eq_self, ne_eq, not_true_eq_false, not_false_eq_true, false_implies, true_implies, implies_true, b2i_0, b2i_1, b2i_01, up_sc, sc_at, sc_sc, ite_true, ite_false, if_true, if_false, Nat.reduceEqDiff, reduceIte, tp isP12, h6, h7]
    repeat' (first | intro _ | refine And.intro ?_ ?_)
    all_goals first | omega | exact main
  · have hK := hK0 (fun z => e z.1)
    have e1 : 0 < cntF g 40 0 0 ∧ r = -1 := by omega
    simp only [s164_0, s164_1, s164_4, s164_7, s164_8, s164_11, s164_12, s164_15, s164_16, sx_push, tf, List.length_cons, List.length_nil, Option.some.injEq, exists_eq_left', Nat.reduceAdd, Nat.reduceLeDiff, true_and, and_true, true_or, or_true, Int.zero_add, Nat.zero_le, eq_self, ne_eq, not_true_eq_false, not_false_eq_true, false_implies, true_implies, implies_true, b2i_0, b2i_1, b2i_01, up_sc, sc_at, sc_sc, ite_true, ite_false, if_true, if_false, Nat.reduceEqDiff, reduceIte, tp isP12, h6, h7, e1.2]
    repeat' (first | intro _ | refine And.intro ?_ ?_)
    all_goals first | omega | exact hK
theorem x165i (hr : rL σ 12 g) (hw : wfc g) {a : Int} (a0 : 0 ≤ a) (a1 : a < 40) : ∀ (k : Nat) (b : Int), b + k = 40 → a < b → ((∀ q, b ≤ q → q < 40 → g a = 1 → g q = 1 → spP g a q) → Rn 165 68 [some (vR 12), some (vI a), some (vI 40)] [] (T0 n) σ K) → ((∃ q, b ≤ q ∧ q < 40 ∧ g a = 1 ∧ g q = 1 ∧ ¬ spP g a q) → K (some (vI 0)) (T0 n) σ) → Rn 165 12 [some (vR 12), some (vI a), some (vI b)] [] (T0 n) σ K := by
  intro k
  induction k with
  | zero =>
    intro b hb ab hK1 hK0
    obtain rfl : b = 40 := by omega
    have := hK1 (fun q q0 q1 => by omega)
    rw [s165_12]
    simp only [s165_13, s165_15, sx_push, tf, List.length_cons, List.length_nil, Option.some.injEq, exists_eq_left', Nat.reduceAdd, Nat.reduceLeDiff, true_and, and_true, true_or, or_true, Int.zero_add, Nat.zero_le, eq_self, ne_eq, not_true_eq_false, not_false_eq_true, false_implies, true_implies, implies_true, b2i_0, b2i_1, b2i_01, up_sc, sc_at, sc_sc, ite_true, ite_false, if_true, if_false, Nat.reduceEqDiff, reduceIte]
    repeat' (first | intro _ | refine And.intro ?_ ?_)
    all_goals first | omega | exact this
  | succ k ih =>
    intro b hb ab hK1 hK0
    have b1 : b < 40 := by omega
    rw [s165_12]
    have nx : (g a = 1 → g b = 1 → spP g a b) → (∀ q, b + 1 ≤ q → q < 40 → g a = 1 → g q = 1 → spP g a q) → ∀ q, b ≤ q → q < 40 → g a = 1 → g q = 1 → spP g a q := fun h h2 q q0 q1 ha hq => by
      by_cases z : q = b
      · rw [z] at hq ⊢; exact h ha hq
      · exact h2 q (by omega) q1 ha hq
    have nx0 : (∃ q, b + 1 ≤ q ∧ q < 40 ∧ g a = 1 ∧ g q = 1 ∧ ¬ spP g a q) → K (some (vI 0)) (T0 n) σ := fun ⟨q, q0, q1, q2⟩ => hK0 ⟨q, by omega, q1, q2⟩
    rcases rL12 hr a a0 a1 with ⟨c1, c2, c3, c4, c5, c6⟩ | ⟨c1, c2⟩
    · rcases rL12 hr b (by omega) b1 with ⟨d1, d2, d3, d4, d5, d6⟩ | ⟨d1, d2⟩
      · have pw := pw_in (k := min (g (160 + a)) (g (160 + b))) (by omega) (by omega)
        by_cases es : spP g a b
        · have main := ih (b + 1) (by omega) (by omega) (fun h => hK1 (nx (fun _ _ => es) h)) nx0
          unfold spP at es
          simp only [s165_13, s165_15, s165_18, s165_19, s165_20, s165_23, s165_26, s165_27, s165_28, s165_31, s165_34, s165_35, s165_36, s165_37, s165_40, s165_41, s165_42, s165_45, s165_46, s165_47, s165_48, s165_51, s165_52, s165_53, s165_56, s165_57, s165_60, s165_61, s165_62, s165_65, sx_push, tf, List.length_cons, List.length_nil, Option.some.injEq, exists_eq_left', Nat.reduceAdd, Nat.reduceLeDiff, true_and, and_true, true_or, or_true, Int.zero_add, Nat.zero_le, eq_self, ne_eq, not_true_eq_false, not_false_eq_true, false_implies, true_implies, implies_true, b2i_0, b2i_1, b2i_01, up_sc, sc_at, sc_sc, ite_true, ite_false, if_true, if_false, Nat.reduceEqDiff, reduceIte, tp isP12, x49 isP12 hr, c2, d2, x62o isP12 hr hw a0 a1 c1 (by omega) b1 d1, Int.one_mul]
          repeat' (first | intro _ | refine And.intro ?_ ?_)
          all_goals first | omega | exact main
        · have hK := hK0 ⟨b, Int.le_refl b, b1, c1, d1, es⟩
          unfold spP at es
          simp only [s165_13, s165_15, s165_18, s165_19, s165_20, s165_23, s165_26, s165_27, s165_28, s165_31, s165_34, s165_35, s165_36, s165_37, s165_40, s165_41, s165_42, s165_45, s165_46, s165_47, s165_48, s165_51, s165_52, s165_53, s165_56, s165_57, s165_60, s165_61, sx_push, tf, List.length_cons, List.length_nil, Option.some.injEq, exists_eq_left', Nat.reduceAdd, Nat.reduceLeDiff, true_and, and_true, true_or, or_true, Int.zero_add, Nat.zero_le, eq_self, ne_eq, not_true_eq_false, not_false_eq_true, false_implies, true_implies, implies_true, b2i_0, b2i_1, b2i_01, up_sc, sc_at, sc_sc, ite_true, ite_false, if_true, if_false, Nat.reduceEqDiff, reduceIte, tp isP12, x49 isP12 hr, c2, d2, x62o isP12 hr hw a0 a1 c1 (by omega) b1 d1, Int.one_mul]
          repeat' (first | intro _ | refine And.intro ?_ ?_)
          all_goals first | omega | exact hK
      · have main := ih (b + 1) (by omega) (by omega) (fun h => hK1 (nx (fun _ z => by omega) h)) nx0
        simp only [s165_13, s165_15, s165_18, s165_19, s165_20, s165_23, s165_26, s165_27, s165_28, s165_31, s165_62, s165_65, sx_push, tf, List.length_cons, List.length_nil, Option.some.injEq, exists_eq_left', Nat.reduceAdd, Nat.reduceLeDiff, true_and, and_true, true_or, or_true, Int.zero_add, Nat.zero_le, eq_self, ne_eq, not_true_eq_false, not_false_eq_true, false_implies, true_implies, implies_true, b2i_0, b2i_1, b2i_01, up_sc, sc_at, sc_sc, ite_true, ite_false, if_true, if_false, Nat.reduceEqDiff, reduceIte, tp isP12, x49 isP12 hr]
        repeat' (first | intro _ | refine And.intro ?_ ?_)
        all_goals first | omega | exact main
    · have main := ih (b + 1) (by omega) (by omega) (fun h => hK1 (nx (fun z => by omega) h)) nx0
      simp only [s165_13, s165_15, s165_18, s165_19, s165_20, s165_23, s165_62, s165_65, sx_push, tf, List.length_cons, List.length_nil, Option.some.injEq, exists_eq_left', Nat.reduceAdd, Nat.reduceLeDiff, true_and, and_true, true_or, or_true, Int.zero_add, Nat.zero_le, eq_self, ne_eq, not_true_eq_false, not_false_eq_true, false_implies, true_implies, implies_true, b2i_0, b2i_1, b2i_01, up_sc, sc_at, sc_sc, ite_true, ite_false, if_true, if_false, Nat.reduceEqDiff, reduceIte, tp isP12, x49 isP12 hr]
      repeat' (first | intro _ | refine And.intro ?_ ?_)
      all_goals first | omega | exact main
theorem x165o (hr : rL σ 12 g) (hw : wfc g) : ∀ (k : Nat) (a : Int) (u : Option sxV), a + k = 40 → 0 ≤ a → ((∀ p q, a ≤ p → p < q → q < 40 → g p = 1 → g q = 1 → spP g p q) → K (some (vI 1)) (T0 n) σ) → ((∃ p q, a ≤ p ∧ p < q ∧ q < 40 ∧ g p = 1 ∧ g q = 1 ∧ ¬ spP g p q) → K (some (vI 0)) (T0 n) σ) → Rn 165 2 [some (vR 12), some (vI a), u] [] (T0 n) σ K := by
  intro k
  induction k with
  | zero =>
    intro a u ha a0 hK1 hK0
    have := hK1 (fun p q p0 p1 p2 => by omega)
    rw [s165_2]
    simp only [s165_3, s165_5, s165_74, s165_75, sx_push, tf, List.length_cons, List.length_nil, Option.some.injEq, exists_eq_left', Nat.reduceAdd, Nat.reduceLeDiff, true_and, and_true, true_or, or_true, Int.zero_add, Nat.zero_le, eq_self, ne_eq, not_true_eq_false, not_false_eq_true, false_implies, true_implies, implies_true, b2i_0, b2i_1, b2i_01, up_sc, sc_at, sc_sc, ite_true, ite_false, if_true, if_false, Nat.reduceEqDiff, reduceIte]
    repeat' (first | intro _ | refine And.intro ?_ ?_)
    all_goals first | omega | exact this
  | succ k ih =>
    intro a u ha a0 hK1 hK0
    have a1 : a < 40 := by omega
    have main : Rn 165 12 [some (vR 12), some (vI a), some (vI (a + 1))] [] (T0 n) σ K := by
      refine x165i hr hw a0 a1 k (a + 1) (by omega) (by omega) (fun h => ?_) (fun ⟨q, q0, q1, q2, q3, q4⟩ => hK0 ⟨a, q, Int.le_refl a, by omega, q1, q2, q3, q4⟩)
      simp only [s165_68, s165_71, sx_push, tf, List.length_cons, List.length_nil, Option.some.injEq, exists_eq_left', Nat.reduceAdd, Nat.reduceLeDiff, true_and, and_true, true_or, or_true, Int.zero_add, Nat.zero_le, eq_self, ne_eq, not_true_eq_false, not_false_eq_true, false_implies, true_implies, implies_true, b2i_0, b2i_1, b2i_01, up_sc, sc_at, sc_sc, ite_true, ite_false, if_true, if_false, Nat.reduceEqDiff, reduceIte]
      refine ⟨by omega, ih (a + 1) _ (by omega) (by omega) (fun h2 => hK1 (fun p q p0 p1 p2 hp hq => ?_)) (fun ⟨p, q, p0, p1⟩ => hK0 ⟨p, q, by omega, p1⟩)⟩
      by_cases z : p = a
      · rw [z] at hp ⊢; exact h q (by omega) p2 hp hq
      · exact h2 p q (by omega) p1 p2 hp hq
    rw [s165_2]
    simp only [s165_3, s165_5, s165_8, s165_9, s165_10, s165_11, sx_push, tf, List.length_cons, List.length_nil, Option.some.injEq, exists_eq_left', Nat.reduceAdd, Nat.reduceLeDiff, true_and, and_true, true_or, or_true, Int.zero_add, Nat.zero_le, eq_self, ne_eq, not_true_eq_false, not_false_eq_true, false_implies, true_implies, implies_true, b2i_0, b2i_1, b2i_01, up_sc, sc_at, sc_sc, ite_true, ite_false, if_true, if_false, Nat.reduceEqDiff, reduceIte]
    repeat' (first | intro _ | refine And.intro ?_ ?_)
    all_goals first | omega | exact main
theorem x165 (hr : rL σ 12 g) (hw : wfc g) (hK1 : sepP g → K (some (vI 1)) (T0 n) σ) (hK0 : ¬ sepP g → K (some (vI 0)) (T0 n) σ) : Rn 165 0 [some (vR 12), none, none] [] (T0 n) σ K := by
  simp only [s165_0, s165_1, sx_push, tf, List.length_cons, List.length_nil, Option.some.injEq, exists_eq_left', Nat.reduceAdd, Nat.reduceLeDiff, true_and, and_true, true_or, or_true, Int.zero_add, Nat.zero_le, eq_self, ne_eq, not_true_eq_false, not_false_eq_true, false_implies, true_implies, implies_true, b2i_0, b2i_1, b2i_01, up_sc, sc_at, sc_sc, ite_true, ite_false, if_true, if_false, Nat.reduceEqDiff, reduceIte]
  exact x165o hr hw 40 0 _ (by omega) (by omega) (fun h => hK1 (fun a b a0 ab b1 ha hb => h a b a0 ab b1 ha hb)) (fun ⟨p, q, p0, p1, p2, p3, p4, p5⟩ => hK0 (fun z => p5 (z p q p0 p1 p2 p3 p4)))
end O4
