/-! images: written -/
def lsA : List Int → Int → (Int → Int) → Prop
  | [], _, _ => True
  | q :: L, i, g => g i = q ∧ lsA L (i + 1) g
theorem lsA_cg {g h : Int → Int} : ∀ (R : List Int) (i : Int), (∀ j, j < i + R.length → h j = g j) → lsA R i g → lsA R i h := by
  intro R
  induction R with
  | nil => intro i _ _; trivial
  | cons r R ih =>
    intro i e hg
    simp only [List.length_cons] at e
    exact ⟨by rw [e i (by omega)]; exact hg.1, ih (i + 1) (fun j hj => e j (by omega)) hg.2⟩
theorem lsA_ap {g : Int → Int} {r : Int} : ∀ (R : List Int) (i : Int), lsA R i g → g (i + R.length) = r → lsA (R ++ [r]) i g := by
  intro R
  induction R with
  | nil => intro i _ h; exact ⟨by simpa using h, trivial⟩
  | cons q R ih =>
    intro i h h2
    refine ⟨h.1, ih (i + 1) h.2 ?_⟩
    simp only [List.length_cons] at h2
    rw [show i + 1 + (R.length : Int) = i + ((R.length + 1 : Nat) : Int) by omega]
    exact h2
theorem lsA_up {g : Int → Int} {r : Int} {R : List Int} (h : lsA R 0 g) : lsA (R ++ [r]) 0 (up1 g R.length r) := lsA_ap R 0 (lsA_cg R 0 (fun j hj => up1_n (by omega)) h) (by rw [Int.zero_add, up1_s])
theorem lsA_eq {g h : Int → Int} : ∀ (R : List Int) (i k : Int), lsA R i g → lsA R i h → i ≤ k → k < i + R.length → g k = h k := by
  intro R
  induction R with
  | nil => intro i k _ _ h1 h2; simp only [List.length_nil] at h2; omega
  | cons r R ih =>
    intro i k h1 h2 k0 k1
    simp only [List.length_cons] at k1
    by_cases e : k = i
    · rw [e, h1.1, h2.1]
    · exact ih (i + 1) k h1.2 h2.2 (by omega) (by omega)
def ckL : List Int → Int → Int
  | [], c => c
  | b :: L, c => ckL L ((3 * c + b) % 251)
def okB : List Int → Prop
  | [] => True
  | b :: L => in8 b ∧ okB L
theorem okB_ap {R S : List Int} (h : okB R) (h2 : okB S) : okB (R ++ S) := by
  induction R with
  | nil => exact h2
  | cons r R ih => exact ⟨h.1, ih h.2⟩
theorem ckL_in : ∀ (L : List Int) (c : Int), 0 ≤ c → c ≤ 251 → 0 ≤ ckL L c ∧ ckL L c ≤ 251 := by
  intro L
  induction L with
  | nil => intro c h1 h2; exact ⟨h1, h2⟩
  | cons b L ih => intro c h1 h2; exact ih _ (by omega) (by omega)
def imP (f : Int → Int) (p : Int) : List Int := [p, f (40 + p), f (80 + p), f (120 + p), f (160 + p), if f (200 + p) = -1 then 255 else f (200 + p)]
def imR (f : Int → Int) : Nat → Int → List Int
  | 0, _ => []
  | k + 1, p => if f p = 1 then imP f p ++ imR f k (p + 1) else imR f k (p + 1)
def imB (f : Int → Int) : List Int := [f 480, cntF f 40 0 0] ++ imR f 40 0
def imF (f : Int → Int) : List Int := imB f ++ [ckL (imB f) 149]
theorem imP_ok {f : Int → Int} (hO : rowOk f) {p : Int} (p0 : 0 ≤ p) (p1 : p < 40) (hp : f p = 1) : okB (imP f p) := by
  have w := hO.1.2.1 p p0 p1
  have t := hO.1.2.2.1 p p0 p1 hp
  have z := hO.2.1 p p0 p1 hp
  refine ⟨by unfold in8; omega, w.1, w.2.1, w.2.2, by unfold in8; omega, ?_, trivial⟩
  unfold in8
  by_cases e : f (160 + p) < 10
  · have t2 := t.2.2 e
    split <;> omega
  · rw [if_pos (z (by omega))]; omega
theorem imR_ok {f : Int → Int} (hO : rowOk f) : ∀ (k : Nat) (p : Int), p + k = 40 → 0 ≤ p → okB (imR f k p) ∧ (imR f k p).length ≤ 6 * k := by
  intro k
  induction k with
  | zero => intro p _ _; exact ⟨trivial, by show 0 ≤ 6 * 0; omega⟩
  | succ k ih =>
    intro p hp p0
    have z := ih (p + 1) (by omega) (by omega)
    unfold imR
    split
    · rename_i e
      refine ⟨okB_ap (imP_ok hO p0 (by omega) e) z.1, ?_⟩
      rw [List.length_append]
      simp only [imP, List.length_cons, List.length_nil]
      omega
    · exact ⟨z.1, by omega⟩
theorem imB_ok {f : Int → Int} (hO : rowOk f) : okB (imB f) ∧ (imB f).length ≤ 242 := by
  have z := imR_ok hO 40 0 (by omega) (by omega)
  have ci := cntF_in hO.1.1 40 0 0 (by omega) (by omega)
  have m := hO.2.2.2
  refine ⟨⟨by unfold in8; omega, by unfold in8; omega, z.1⟩, ?_⟩
  show (imR f 40 0).length + 1 + 1 ≤ 242
  omega
theorem tm251 {a : Int} (h : 0 ≤ a) : a.tmod 251 = a % 251 := Int.tmod_eq_emod_of_nonneg h
/-- while an image is written: the reference -/
def iR (σ0 σ : sxS) (L : List Int) : Prop := (∀ k, k ≠ 149 → k ≠ 169 → σ k = σ0 k) ∧ (∀ j, j ≠ 41 → σ 149 j = σ0 149 j) ∧ σ 149 41 = L.length ∧ lsA L 0 (σ 169)
/-- and the class -/
def iC (σ0 σ : sxS) (L : List Int) : Prop := (∀ k, k ≠ 146 → k ≠ 147 → σ k = σ0 k) ∧ σ 146 1 = L.length ∧ lsA L 0 (σ 147)
section I1
variable {n : Nat} {c : Int} {σ σ0 : sxS} {K : Option sxV → sxT → sxS → Prop} {f : Int → Int}
theorem x281 {L : List Int} {v : Int} (h : iR σ0 σ L) (hl : L.length ≤ 242) (hK : ∀ σ', iR σ0 σ' (L ++ [v]) → K none (T0 n) σ') : Rn 281 0 [some (vR 149), some (vI v)] [] (T0 n) σ K := by
  obtain ⟨h1, h2, h3, h4⟩ := h
  simp only [s281_0, s281_1, s281_4, s281_5, s281_8, s281_9, s281_10, s281_11, s281_12, s281_15, s281_16, s281_17, s281_20, sx_push, tf, List.length_cons, List.length_nil, Option.some.injEq, exists_eq_left', Nat.reduceAdd, Nat.reduceLeDiff, true_and, and_true, true_or, or_true, Int.zero_add, Nat.zero_le, eq_self, ne_eq, not_true_eq_false, not_false_eq_true, false_implies, true_implies, implies_true, b2i_0, b2i_1, b2i_01, up_sc, sc_at, sc_sc, ite_true, ite_false, if_true, if_false, Nat.reduceEqDiff, reduceIte, h3]
  repeat' (first | intro _ | refine And.intro ?_ ?_)
  all_goals first | omega | skip
  refine hK _ ⟨fun k k1 k2 => ?_, fun j hj => ?_, ?_, ?_⟩
  · rw [sc_at, if_neg k1, sc_at, if_neg k2]; exact h1 k k1 k2
  · simp only [sc_at, Nat.reduceEqDiff, reduceIte]; rw [up1_n hj]; exact h2 j hj
  · simp only [sc_at, Nat.reduceEqDiff, reduceIte]; rw [up1_s, List.length_append]; simp
  · simp only [sc_at, Nat.reduceEqDiff, reduceIte]; exact lsA_up h4
theorem x157 {L : List Int} {v : Int} (h : iC σ0 σ L) (hl : L.length ≤ 242) (hK : ∀ σ', iC σ0 σ' (L ++ [v]) → K none (T0 n) σ') : Rn 157 0 [some (vR 146), some (vI v)] [] (T0 n) σ K := by
  obtain ⟨h1, h3, h4⟩ := h
  simp only [s157_0, s157_1, s157_4, s157_5, s157_8, s157_9, s157_12, s157_13, s157_16, s157_17, s157_20, s157_21, s157_22, s157_23, s157_24, s157_27, s157_28, s157_29, s157_32, sx_push, tf, List.length_cons, List.length_nil, Option.some.injEq, exists_eq_left', Nat.reduceAdd, Nat.reduceLeDiff, true_and, and_true, true_or, or_true, Int.zero_add, Nat.zero_le, eq_self, ne_eq, not_true_eq_false, not_false_eq_true, false_implies, true_implies, implies_true, b2i_0, b2i_1, b2i_01, up_sc, sc_at, sc_sc, ite_true, ite_false, if_true, if_false, Nat.reduceEqDiff, reduceIte, h3]
  repeat' (first | intro _ | refine And.intro ?_ ?_)
  all_goals first | omega | skip
  refine hK _ ⟨fun k k1 k2 => ?_, ?_, ?_⟩
  · rw [sc_at, if_neg k1, sc_at, if_neg k2]; exact h1 k k1 k2
  · simp only [sc_at, Nat.reduceEqDiff, reduceIte]; rw [up1_s, List.length_append]; simp
  · simp only [sc_at, Nat.reduceEqDiff, reduceIte]; exact lsA_up h4
theorem ap6 (L : List Int) (a b c d e g : Int) (M : List Int) : L ++ [a] ++ [b] ++ [c] ++ [d] ++ [e] ++ [g] ++ M = L ++ ([a, b, c, d, e, g] ++ M) := by simp
theorem x280l (hO : rowOk (σ0 150)) : ∀ (k : Nat) (p : Int) (σ : sxS) (L : List Int) (u : Option sxV), p + k = 40 → 0 ≤ p → iR σ0 σ L → (L.length : Int) ≤ 2 + 6 * p → (∀ σ', iR σ0 σ' (L ++ imR (σ0 150) k p) → ∀ u, Rn 280 154 [some (vR 149), some (vI 40), u] [] (T0 n) σ' K) → Rn 280 36 [some (vR 149), some (vI p), u] [] (T0 n) σ K := by
  intro k
  induction k with
  | zero =>
    intro p σ L u hp p0 h hl hK
    obtain rfl : p = 40 := by omega
    have := hK σ (by show iR σ0 σ (L ++ []); rw [List.append_nil]; exact h) u
    rw [s280_36]
    simp only [s280_37, s280_39, sx_push, tf, List.length_cons, List.length_nil, Option.some.injEq, exists_eq_left', Nat.reduceAdd, Nat.reduceLeDiff, true_and, and_true, true_or, or_true, Int.zero_add, Nat.zero_le, eq_self, ne_eq, not_true_eq_false, not_false_eq_true, false_implies, true_implies, implies_true, b2i_0, b2i_1, b2i_01, up_sc, sc_at, sc_sc, ite_true, ite_false, if_true, if_false, Nat.reduceEqDiff, reduceIte]
    repeat' (first | intro _ | refine And.intro ?_ ?_)
    all_goals first | omega | exact this
  | succ k ih =>
    intro p σ L u hp p0 h hl hK
    have p1 : p < 40 := by omega
    have g150 : σ 150 = σ0 150 := h.1 150 (by decide) (by decide)
    rw [s280_36]
    unfold imR at hK
    rcases hO.1.1 p p0 p1 with e | e
    · simp only [if_neg (show ¬ σ0 150 p = 1 by omega)] at hK
      simp only [s280_37, s280_39, s280_42, s280_43, s280_46, s280_47, s280_48, s280_49, s280_50, s280_53, s280_148, s280_151, sx_push, tf, List.length_cons, List.length_nil, Option.some.injEq, exists_eq_left', Nat.reduceAdd, Nat.reduceLeDiff, true_and, and_true, true_or, or_true, Int.zero_add, Nat.zero_le, eq_self, ne_eq, not_true_eq_false, not_false_eq_true, false_implies, true_implies, implies_true, b2i_0, b2i_1, b2i_01, up_sc, sc_at, sc_sc, ite_true, ite_false, if_true, if_false, Nat.reduceEqDiff, reduceIte, g150, e]
      repeat' (first | intro _ | refine And.intro ?_ ?_)
      all_goals first | omega | exact ih (p + 1) σ L _ (by omega) (by omega) h (by omega) hK
    · simp only [if_pos e] at hK
      simp only [s280_37, s280_39, s280_42, s280_43, s280_46, s280_47, s280_48, s280_49, s280_50, s280_53, s280_56, s280_57, s280_58, sx_push, tf, List.length_cons, List.length_nil, Option.some.injEq, exists_eq_left', Nat.reduceAdd, Nat.reduceLeDiff, true_and, and_true, true_or, or_true, Int.zero_add, Nat.zero_le, eq_self, ne_eq, not_true_eq_false, not_false_eq_true, false_implies, true_implies, implies_true, b2i_0, b2i_1, b2i_01, up_sc, sc_at, sc_sc, ite_true, ite_false, if_true, if_false, Nat.reduceEqDiff, reduceIte, g150, e]
      repeat' (first | intro _ | refine And.intro ?_ ?_)
      all_goals first | omega | skip
      refine x281 h (by omega) (fun σ1 h1 => ?_)
      have g1 : σ1 150 = σ0 150 := h1.1 150 (by decide) (by decide)
      simp only [s280_61, s280_62, s280_63, s280_66, s280_68, s280_69, s280_70, s280_71, sx_push, tf, List.length_cons, List.length_nil, Option.some.injEq, exists_eq_left', Nat.reduceAdd, Nat.reduceLeDiff, true_and, and_true, true_or, or_true, Int.zero_add, Nat.zero_le, eq_self, ne_eq, not_true_eq_false, not_false_eq_true, false_implies, true_implies, implies_true, b2i_0, b2i_1, b2i_01, up_sc, sc_at, sc_sc, ite_true, ite_false, if_true, if_false, Nat.reduceEqDiff, reduceIte, g1]
      repeat' (first | intro _ | refine And.intro ?_ ?_)
      all_goals first | omega | skip
      refine x281 h1 (by simp; omega) (fun σ2 h2 => ?_)
      have g2 : σ2 150 = σ0 150 := h2.1 150 (by decide) (by decide)
      simp only [s280_74, s280_75, s280_76, s280_79, s280_81, s280_82, s280_83, s280_84, sx_push, tf, List.length_cons, List.length_nil, Option.some.injEq, exists_eq_left', Nat.reduceAdd, Nat.reduceLeDiff, true_and, and_true, true_or, or_true, Int.zero_add, Nat.zero_le, eq_self, ne_eq, not_true_eq_false, not_false_eq_true, false_implies, true_implies, implies_true, b2i_0, b2i_1, b2i_01, up_sc, sc_at, sc_sc, ite_true, ite_false, if_true, if_false, Nat.reduceEqDiff, reduceIte, g2]
      repeat' (first | intro _ | refine And.intro ?_ ?_)
      all_goals first | omega | skip
      refine x281 h2 (by simp; omega) (fun σ3 h3 => ?_)
      have g3 : σ3 150 = σ0 150 := h3.1 150 (by decide) (by decide)
      simp only [s280_87, s280_88, s280_89, s280_92, s280_94, s280_95, s280_96, s280_97, sx_push, tf, List.length_cons, List.length_nil, Option.some.injEq, exists_eq_left', Nat.reduceAdd, Nat.reduceLeDiff, true_and, and_true, true_or, or_true, Int.zero_add, Nat.zero_le, eq_self, ne_eq, not_true_eq_false, not_false_eq_true, false_implies, true_implies, implies_true, b2i_0, b2i_1, b2i_01, up_sc, sc_at, sc_sc, ite_true, ite_false, if_true, if_false, Nat.reduceEqDiff, reduceIte, g3]
      repeat' (first | intro _ | refine And.intro ?_ ?_)
      all_goals first | omega | skip
      refine x281 h3 (by simp; omega) (fun σ4 h4 => ?_)
      have g4 : σ4 150 = σ0 150 := h4.1 150 (by decide) (by decide)
      simp only [s280_100, s280_101, s280_102, s280_105, s280_108, s280_109, s280_110, s280_111, sx_push, tf, List.length_cons, List.length_nil, Option.some.injEq, exists_eq_left', Nat.reduceAdd, Nat.reduceLeDiff, true_and, and_true, true_or, or_true, Int.zero_add, Nat.zero_le, eq_self, ne_eq, not_true_eq_false, not_false_eq_true, false_implies, true_implies, implies_true, b2i_0, b2i_1, b2i_01, up_sc, sc_at, sc_sc, ite_true, ite_false, if_true, if_false, Nat.reduceEqDiff, reduceIte, g4]
      repeat' (first | intro _ | refine And.intro ?_ ?_)
      all_goals first | omega | skip
      refine x281 h4 (by simp; omega) (fun σ5 h5 => ?_)
      have g5 : σ5 150 = σ0 150 := h5.1 150 (by decide) (by decide)
      have last : ∀ v, v = (if σ0 150 (200 + p) = -1 then 255 else σ0 150 (200 + p)) → Rn 281 0 [some (vR 149), some (vI v)] [] (T0 n) σ5 (fun r T' σ' => Rn 280 148 [some (vR 149), some (vI p), u] (sx_push r []) T' σ' K) := fun v hv => by
        refine x281 h5 (by simp; omega) (fun σ6 h6 => ?_)
        simp only [s280_148, s280_151, sx_push, tf, List.length_cons, List.length_nil, Option.some.injEq, exists_eq_left', Nat.reduceAdd, Nat.reduceLeDiff, true_and, and_true, true_or, or_true, Int.zero_add, Nat.zero_le, eq_self, ne_eq, not_true_eq_false, not_false_eq_true, false_implies, true_implies, implies_true, b2i_0, b2i_1, b2i_01, up_sc, sc_at, sc_sc, ite_true, ite_false, if_true, if_false, Nat.reduceEqDiff, reduceIte]
        refine ⟨by omega, ih (p + 1) σ6 _ _ (by omega) (by omega) h6 (by simp; omega) (fun σ' h' => hK σ' ?_)⟩
        rw [ap6, hv] at h'
        exact h'
      simp only [s280_114, s280_115, s280_116, s280_119, s280_122, s280_123, s280_124, s280_125, s280_126, s280_129, s280_132, s280_135, s280_136, s280_139, s280_142, s280_143, s280_144, s280_145, sx_push, tf, List.length_cons, List.length_nil, Option.some.injEq, exists_eq_left', Nat.reduceAdd, Nat.reduceLeDiff, true_and, and_true, true_or, or_true, Int.zero_add, Nat.zero_le, eq_self, ne_eq, not_true_eq_false, not_false_eq_true, false_implies, true_implies, implies_true, b2i_0, b2i_1, b2i_01, up_sc, sc_at, sc_sc, ite_true, ite_false, if_true, if_false, Nat.reduceEqDiff, reduceIte, g5]
      repeat' (first | intro _ | refine And.intro ?_ ?_)
      all_goals first | omega | (exact last _ (by rw [if_pos (by assumption)])) | (exact last _ (by rw [if_neg (by assumption)]))
theorem x280c : ∀ (M L : List Int) (i d : Int), lsA M i (σ 169) → i + M.length = σ 149 41 → 0 ≤ i → σ 149 41 ≤ 242 → okB M → 0 ≤ d → d ≤ 251 → Rn 280 189 [some (vR 149), some (vI (ckL M d)), some (vI (σ 149 41))] [] (T0 n) σ K → Rn 280 160 [some (vR 149), some (vI d), some (vI i)] [] (T0 n) σ K := by
  intro M
  induction M with
  | nil =>
    intro L i d _ hi i0 h41 _ d0 d1 hK
    simp only [List.length_nil] at hi
    obtain rfl : i = σ 149 41 := by omega
    rw [s280_160]
    simp only [s280_161, s280_162, s280_165, sx_push, tf, List.length_cons, List.length_nil, Option.some.injEq, exists_eq_left', Nat.reduceAdd, Nat.reduceLeDiff, true_and, and_true, true_or, or_true, Int.zero_add, Nat.zero_le, eq_self, ne_eq, not_true_eq_false, not_false_eq_true, false_implies, true_implies, implies_true, b2i_0, b2i_1, b2i_01, up_sc, sc_at, sc_sc, ite_true, ite_false, if_true, if_false, Nat.reduceEqDiff, reduceIte]
    repeat' (first | intro _ | refine And.intro ?_ ?_)
    all_goals first | omega | exact hK
  | cons b M ih =>
    intro L i d hm hi i0 h41 hb d0 d1 hK
    simp only [List.length_cons] at hi
    have b8 := hb.1
    unfold in8 at b8
    rw [s280_160]
    simp only [s280_161, s280_162, s280_165, s280_168, s280_169, s280_170, s280_171, s280_172, s280_175, s280_176, s280_177, s280_178, s280_181, s280_182, s280_183, s280_186, sx_push, tf, List.length_cons, List.length_nil, Option.some.injEq, exists_eq_left', Nat.reduceAdd, Nat.reduceLeDiff, true_and, and_true, true_or, or_true, Int.zero_add, Nat.zero_le, eq_self, ne_eq, not_true_eq_false, not_false_eq_true, false_implies, true_implies, implies_true, b2i_0, b2i_1, b2i_01, up_sc, sc_at, sc_sc, ite_true, ite_false, if_true, if_false, Nat.reduceEqDiff, reduceIte, hm.1, tm251 (show 0 ≤ 3 * d + b by omega)]
    have main := ih L (i + 1) ((3 * d + b) % 251) hm.2 (by omega) (by omega) h41 hb.2 (by omega) (by omega) hK
    repeat' (first | intro _ | refine And.intro ?_ ?_)
    all_goals first | omega | exact main
theorem x280 (hO : rowOk (σ 150)) (h6 : σ 149 6 ≠ 0) (hK : ∀ σ', iR σ σ' (imF (σ 150)) → K (some (vI (imF (σ 150)).length)) (T0 n) σ') : Rn 280 0 [some (vR 149), none, none] [] (T0 n) σ K := by
  have ib := imB_ok hO
  have h0 : iR σ (sc σ 149 (up1 (σ 149) 41 0)) [] := ⟨fun k k1 k2 => by rw [sc_at, if_neg k1], fun j hj => by simp only [sc_at, reduceIte]; rw [up1_n hj], by simp [sc_at, up1], trivial⟩
  simp only [s280_0, s280_1, s280_4, s280_7, s280_8, s280_9, s280_10, s280_11, s280_14, s280_15, s280_16, s280_19, s280_22, s280_23, sx_push, tf, List.length_cons, List.length_nil, Option.some.injEq, exists_eq_left', Nat.reduceAdd, Nat.reduceLeDiff, true_and, and_true, true_or, or_true, Int.zero_add, Nat.zero_le, eq_self, ne_eq, not_true_eq_false, not_false_eq_true, false_implies, true_implies, implies_true, b2i_0, b2i_1, b2i_01, up_sc, sc_at, sc_sc, ite_true, ite_false, if_true, if_false, Nat.reduceEqDiff, reduceIte]
  repeat' (first | intro _ | refine And.intro ?_ ?_)
  all_goals first | omega | contradiction | skip
  refine x281 h0 (by simp) (fun σ1 h1 => ?_)
  have g1 : σ1 150 = σ 150 := h1.1 150 (by decide) (by decide)
  have x202' := fun K => x202 (n := n) (σ := σ1) (K := K) (by rw [g1]; exact hO.1.1)
  rw [g1] at x202'
  simp only [s280_26, s280_27, s280_28, s280_31, sx_push, tf, List.length_cons, List.length_nil, Option.some.injEq, exists_eq_left', Nat.reduceAdd, Nat.reduceLeDiff, true_and, and_true, true_or, or_true, Int.zero_add, Nat.zero_le, eq_self, ne_eq, not_true_eq_false, not_false_eq_true, false_implies, true_implies, implies_true, b2i_0, b2i_1, b2i_01, up_sc, sc_at, sc_sc, ite_true, ite_false, if_true, if_false, Nat.reduceEqDiff, reduceIte, x202']
  refine x281 h1 (by simp) (fun σ2 h2 => ?_)
  simp only [s280_34, s280_35, sx_push, tf, List.length_cons, List.length_nil, Option.some.injEq, exists_eq_left', Nat.reduceAdd, Nat.reduceLeDiff, true_and, and_true, true_or, or_true, Int.zero_add, Nat.zero_le, eq_self, ne_eq, not_true_eq_false, not_false_eq_true, false_implies, true_implies, implies_true, b2i_0, b2i_1, b2i_01, up_sc, sc_at, sc_sc, ite_true, ite_false, if_true, if_false, Nat.reduceEqDiff, reduceIte]
  refine x280l hO 40 0 σ2 _ _ (by omega) (by omega) h2 (by simp) (fun σ3 h3 u => ?_)
  change iR σ σ3 (imB (σ 150)) at h3
  unfold imF at hK
  generalize imB (σ 150) = B at *
  simp only [s280_154, s280_157, s280_158, s280_159, sx_push, tf, List.length_cons, List.length_nil, Option.some.injEq, exists_eq_left', Nat.reduceAdd, Nat.reduceLeDiff, true_and, and_true, true_or, or_true, Int.zero_add, Nat.zero_le, eq_self, ne_eq, not_true_eq_false, not_false_eq_true, false_implies, true_implies, implies_true, b2i_0, b2i_1, b2i_01, up_sc, sc_at, sc_sc, ite_true, ite_false, if_true, if_false, Nat.reduceEqDiff, reduceIte]
  refine x280c B [] 0 149 h3.2.2.2 (by rw [h3.2.2.1]; omega) (by omega) (by rw [h3.2.2.1]; omega) ib.1 (by omega) (by omega) ?_
  simp only [s280_189, s280_190, s280_191, sx_push, tf, List.length_cons, List.length_nil, Option.some.injEq, exists_eq_left', Nat.reduceAdd, Nat.reduceLeDiff, true_and, and_true, true_or, or_true, Int.zero_add, Nat.zero_le, eq_self, ne_eq, not_true_eq_false, not_false_eq_true, false_implies, true_implies, implies_true, b2i_0, b2i_1, b2i_01, up_sc, sc_at, sc_sc, ite_true, ite_false, if_true, if_false, Nat.reduceEqDiff, reduceIte]
  refine x281 h3 ib.2 (fun σ4 h4 => ?_)
  simp only [s280_194, s280_195, s280_198, sx_push, tf, List.length_cons, List.length_nil, Option.some.injEq, exists_eq_left', Nat.reduceAdd, Nat.reduceLeDiff, true_and, and_true, true_or, or_true, Int.zero_add, Nat.zero_le, eq_self, ne_eq, not_true_eq_false, not_false_eq_true, false_implies, true_implies, implies_true, b2i_0, b2i_1, b2i_01, up_sc, sc_at, sc_sc, ite_true, ite_false, if_true, if_false, Nat.reduceEqDiff, reduceIte, h4.2.2.1]
  exact hK σ4 h4
theorem x156l (hO : rowOk f) (hr : rL σ0 7 f) (hpr : rP σ0 7 f) : ∀ (k : Nat) (p : Int) (σ : sxS) (L : List Int) (u : Option sxV), p + k = 40 → 0 ≤ p → iC σ0 σ L → (L.length : Int) ≤ 2 + 6 * p → (∀ σ', iC σ0 σ' (L ++ imR f k p) → ∀ u, Rn 156 132 [some (vR 146), some (vR 7), some (vI 40), u] [] (T0 n) σ' K) → Rn 156 23 [some (vR 146), some (vR 7), some (vI p), u] [] (T0 n) σ K := by
  intro k
  induction k with
  | zero =>
    intro p σ L u hp p0 h hl hK
    obtain rfl : p = 40 := by omega
    have := hK σ (by show iC σ0 σ (L ++ []); rw [List.append_nil]; exact h) u
    rw [s156_23]
    simp only [s156_24, s156_26, sx_push, tf, List.length_cons, List.length_nil, Option.some.injEq, exists_eq_left', Nat.reduceAdd, Nat.reduceLeDiff, true_and, and_true, true_or, or_true, Int.zero_add, Nat.zero_le, eq_self, ne_eq, not_true_eq_false, not_false_eq_true, false_implies, true_implies, implies_true, b2i_0, b2i_1, b2i_01, up_sc, sc_at, sc_sc, ite_true, ite_false, if_true, if_false, Nat.reduceEqDiff, reduceIte]
    repeat' (first | intro _ | refine And.intro ?_ ?_)
    all_goals first | omega | exact this
  | succ k ih =>
    intro p σ L u hp p0 h hl hK
    have p1 : p < 40 := by omega
    have hr' : rL σ 7 f := rL_k hr (fun k hk => h.1 k (by omega) (by omega))
    rw [s156_23]
    unfold imR at hK
    rcases hO.1.1 p p0 p1 with e | e
    · simp only [if_neg (show ¬ f p = 1 by omega)] at hK
      simp only [s156_24, s156_26, s156_29, s156_30, s156_31, s156_34, s156_126, s156_129, sx_push, tf, List.length_cons, List.length_nil, Option.some.injEq, exists_eq_left', Nat.reduceAdd, Nat.reduceLeDiff, true_and, and_true, true_or, or_true, Int.zero_add, Nat.zero_le, eq_self, ne_eq, not_true_eq_false, not_false_eq_true, false_implies, true_implies, implies_true, b2i_0, b2i_1, b2i_01, up_sc, sc_at, sc_sc, ite_true, ite_false, if_true, if_false, Nat.reduceEqDiff, reduceIte, x49 isP7 hr']
      repeat' (first | intro _ | refine And.intro ?_ ?_)
      all_goals first | omega | exact ih (p + 1) σ L _ (by omega) (by omega) h (by omega) hK
    · simp only [if_pos e] at hK
      have w := hO.1.2.1 p p0 p1
      have pr := pk_rng w.1 w.2.1 w.2.2
      have c8 : ∀ s : sxS, s 8 = σ0 8 → s 8 p = pk (f (40 + p)) (f (80 + p)) (f (120 + p)) := fun s hs => by
        rw [hs]
        rcases rL7 hr p p0 p1 with z | z
        · exact z.2.2.2.2.1
        · omega
      have c9 : ∀ s : sxS, s 9 = σ0 9 → s 9 p = f (160 + p) := fun s hs => by rw [hs]; exact rL_v hr p p0 p1 e
      have c10 : ∀ s : sxS, s 10 = σ0 10 → s 10 p = f (200 + p) := fun s hs => by rw [hs]; exact hpr p p0 p1 e
      simp only [s156_24, s156_26, s156_29, s156_30, s156_31, s156_34, s156_37, s156_38, s156_39, sx_push, tf, List.length_cons, List.length_nil, Option.some.injEq, exists_eq_left', Nat.reduceAdd, Nat.reduceLeDiff, true_and, and_true, true_or, or_true, Int.zero_add, Nat.zero_le, eq_self, ne_eq, not_true_eq_false, not_false_eq_true, false_implies, true_implies, implies_true, b2i_0, b2i_1, b2i_01, up_sc, sc_at, sc_sc, ite_true, ite_false, if_true, if_false, Nat.reduceEqDiff, reduceIte, x49 isP7 hr']
      repeat' (first | intro _ | refine And.intro ?_ ?_)
      all_goals first | omega | skip
      refine x157 h (by omega) (fun σ1 h1 => ?_)
      have d1 := c8 σ1 (h1.1 8 (by decide) (by decide))
      simp only [s156_42, s156_43, s156_44, s156_47, s156_48, s156_49, s156_51, s156_52, s156_55, s156_56, Int.reduceToNat, Int.reducePow, Nat.reducePow, Int.reduceLE, Int.reduceLT, Int.reduceNeg, Int.reduceEq, Int.reduceNe, Int.reduceAdd, Int.reduceSub, Int.reduceMul, and_self, sx_push, tf, List.length_cons, List.length_nil, Option.some.injEq, exists_eq_left', Nat.reduceAdd, Nat.reduceLeDiff, true_and, and_true, true_or, or_true, Int.zero_add, Nat.zero_le, eq_self, ne_eq, not_true_eq_false, not_false_eq_true, false_implies, true_implies, implies_true, b2i_0, b2i_1, b2i_01, up_sc, sc_at, sc_sc, ite_true, ite_false, if_true, if_false, Nat.reduceEqDiff, reduceIte, d1, pk_x w.1 w.2.1 w.2.2]
      repeat' (first | intro _ | refine And.intro ?_ ?_)
      all_goals first | omega | skip
      refine x157 h1 (by simp; omega) (fun σ2 h2 => ?_)
      have d2 := c8 σ2 (h2.1 8 (by decide) (by decide))
      simp only [s156_59, s156_60, s156_61, s156_64, s156_65, s156_66, s156_68, s156_69, s156_72, s156_73, Int.reduceToNat, Int.reducePow, Nat.reducePow, Int.reduceLE, Int.reduceLT, Int.reduceNeg, Int.reduceEq, Int.reduceNe, Int.reduceAdd, Int.reduceSub, Int.reduceMul, and_self, sx_push, tf, List.length_cons, List.length_nil, Option.some.injEq, exists_eq_left', Nat.reduceAdd, Nat.reduceLeDiff, true_and, and_true, true_or, or_true, Int.zero_add, Nat.zero_le, eq_self, ne_eq, not_true_eq_false, not_false_eq_true, false_implies, true_implies, implies_true, b2i_0, b2i_1, b2i_01, up_sc, sc_at, sc_sc, ite_true, ite_false, if_true, if_false, Nat.reduceEqDiff, reduceIte, d2, pk_y w.1 w.2.1 w.2.2]
      repeat' (first | intro _ | refine And.intro ?_ ?_)
      all_goals first | omega | skip
      refine x157 h2 (by simp; omega) (fun σ3 h3 => ?_)
      have d3 := c8 σ3 (h3.1 8 (by decide) (by decide))
      simp only [s156_76, s156_77, s156_78, s156_81, s156_82, s156_83, s156_86, s156_87, Int.reduceToNat, Int.reducePow, Nat.reducePow, Int.reduceLE, Int.reduceLT, Int.reduceNeg, Int.reduceEq, Int.reduceNe, Int.reduceAdd, Int.reduceSub, Int.reduceMul, and_self, sx_push, tf, List.length_cons, List.length_nil, Option.some.injEq, exists_eq_left', Nat.reduceAdd, Nat.reduceLeDiff, true_and, and_true, true_or, or_true, Int.zero_add, Nat.zero_le, eq_self, ne_eq, not_true_eq_false, not_false_eq_true, false_implies, true_implies, implies_true, b2i_0, b2i_1, b2i_01, up_sc, sc_at, sc_sc, ite_true, ite_false, if_true, if_false, Nat.reduceEqDiff, reduceIte, d3, pk_z w.1 w.2.1 w.2.2]
      repeat' (first | intro _ | refine And.intro ?_ ?_)
      all_goals first | omega | skip
      refine x157 h3 (by simp; omega) (fun σ4 h4 => ?_)
      have d4 := c9 σ4 (h4.1 9 (by decide) (by decide))
      simp only [s156_90, s156_91, s156_92, s156_95, s156_96, s156_97, sx_push, tf, List.length_cons, List.length_nil, Option.some.injEq, exists_eq_left', Nat.reduceAdd, Nat.reduceLeDiff, true_and, and_true, true_or, or_true, Int.zero_add, Nat.zero_le, eq_self, ne_eq, not_true_eq_false, not_false_eq_true, false_implies, true_implies, implies_true, b2i_0, b2i_1, b2i_01, up_sc, sc_at, sc_sc, ite_true, ite_false, if_true, if_false, Nat.reduceEqDiff, reduceIte, d4]
      repeat' (first | intro _ | refine And.intro ?_ ?_)
      all_goals first | omega | skip
      refine x157 h4 (by simp; omega) (fun σ5 h5 => ?_)
      have d5 := c10 σ5 (h5.1 10 (by decide) (by decide))
      have last : ∀ v, v = (if f (200 + p) = -1 then 255 else f (200 + p)) → Rn 157 0 [some (vR 146), some (vI v)] [] (T0 n) σ5 (fun r T' σ' => Rn 156 126 [some (vR 146), some (vR 7), some (vI p), u] (sx_push r []) T' σ' K) := fun v hv => by
        refine x157 h5 (by simp; omega) (fun σ6 h6 => ?_)
        simp only [s156_126, s156_129, sx_push, tf, List.length_cons, List.length_nil, Option.some.injEq, exists_eq_left', Nat.reduceAdd, Nat.reduceLeDiff, true_and, and_true, true_or, or_true, Int.zero_add, Nat.zero_le, eq_self, ne_eq, not_true_eq_false, not_false_eq_true, false_implies, true_implies, implies_true, b2i_0, b2i_1, b2i_01, up_sc, sc_at, sc_sc, ite_true, ite_false, if_true, if_false, Nat.reduceEqDiff, reduceIte]
        refine ⟨by omega, ih (p + 1) σ6 _ _ (by omega) (by omega) h6 (by simp; omega) (fun σ' h' => hK σ' ?_)⟩
        rw [ap6, hv] at h'
        exact h'
      simp only [s156_100, s156_101, s156_102, s156_105, s156_106, s156_107, s156_108, s156_111, s156_114, s156_117, s156_118, s156_121, s156_122, s156_123, sx_push, tf, List.length_cons, List.length_nil, Option.some.injEq, exists_eq_left', Nat.reduceAdd, Nat.reduceLeDiff, true_and, and_true, true_or, or_true, Int.zero_add, Nat.zero_le, eq_self, ne_eq, not_true_eq_false, not_false_eq_true, false_implies, true_implies, implies_true, b2i_0, b2i_1, b2i_01, up_sc, sc_at, sc_sc, ite_true, ite_false, if_true, if_false, Nat.reduceEqDiff, reduceIte, d5]
      repeat' (first | intro _ | refine And.intro ?_ ?_)
      all_goals first | omega | (exact last _ (by rw [if_pos (by assumption)])) | (exact last _ (by rw [if_neg (by assumption)]))
theorem x158 {a b : Int} (ha : 0 ≤ a ∧ a ≤ 1000) (hb : 0 ≤ b ∧ b ≤ 1000) : Rn 158 0 [some (vI a), some (vI b)] [] (T0 n) σ K ↔ K (some (vI ((3 * a + b) % 251))) (T0 n) σ := by
  refine Rn_iff fun K hK => ?_
  simp only [s158_0, s158_1, s158_2, s158_3, s158_4, s158_5, s158_8, s158_9, sx_push, tf, List.length_cons, List.length_nil, Option.some.injEq, exists_eq_left', Nat.reduceAdd, Nat.reduceLeDiff, true_and, and_true, true_or, or_true, Int.zero_add, Nat.zero_le, eq_self, ne_eq, not_true_eq_false, not_false_eq_true, false_implies, true_implies, implies_true, b2i_0, b2i_1, b2i_01, up_sc, sc_at, sc_sc, ite_true, ite_false, if_true, if_false, Nat.reduceEqDiff, reduceIte, tm251 (show 0 ≤ 3 * a + b by omega)]
  repeat' (first | intro _ | refine And.intro ?_ ?_)
  all_goals first | exact hK | omega
theorem x156c : ∀ (M : List Int) (i d : Int), lsA M i (σ 147) → i + M.length = σ 146 1 → 0 ≤ i → σ 146 1 ≤ 242 → okB M → 0 ≤ d → d ≤ 251 → Rn 156 163 [some (vR 146), some (vR 7), some (vI (ckL M d)), some (vI (σ 146 1))] [] (T0 n) σ K → Rn 156 138 [some (vR 146), some (vR 7), some (vI d), some (vI i)] [] (T0 n) σ K := by
  intro M
  induction M with
  | nil =>
    intro i d _ hi i0 h41 _ d0 d1 hK
    simp only [List.length_nil] at hi
    obtain rfl : i = σ 146 1 := by omega
    rw [s156_138]
    simp only [s156_139, s156_140, s156_143, sx_push, tf, List.length_cons, List.length_nil, Option.some.injEq, exists_eq_left', Nat.reduceAdd, Nat.reduceLeDiff, true_and, and_true, true_or, or_true, Int.zero_add, Nat.zero_le, eq_self, ne_eq, not_true_eq_false, not_false_eq_true, false_implies, true_implies, implies_true, b2i_0, b2i_1, b2i_01, up_sc, sc_at, sc_sc, ite_true, ite_false, if_true, if_false, Nat.reduceEqDiff, reduceIte]
    repeat' (first | intro _ | refine And.intro ?_ ?_)
    all_goals first | omega | exact hK
  | cons b M ih =>
    intro i d hm hi i0 h41 hb d0 d1 hK
    simp only [List.length_cons] at hi
    have b8 := hb.1
    unfold in8 at b8
    rw [s156_138]
    simp only [s156_139, s156_140, s156_143, s156_146, s156_147, s156_148, s156_151, s156_152, s156_153, s156_156, s156_157, s156_160, sx_push, tf, List.length_cons, List.length_nil, Option.some.injEq, exists_eq_left', Nat.reduceAdd, Nat.reduceLeDiff, true_and, and_true, true_or, or_true, Int.zero_add, Nat.zero_le, eq_self, ne_eq, not_true_eq_false, not_false_eq_true, false_implies, true_implies, implies_true, b2i_0, b2i_1, b2i_01, up_sc, sc_at, sc_sc, ite_true, ite_false, if_true, if_false, Nat.reduceEqDiff, reduceIte, hm.1, x158 (n := n) (show 0 ≤ d ∧ d ≤ 1000 by omega) (show 0 ≤ b ∧ b ≤ 1000 by omega)]
    have main := ih (i + 1) ((3 * d + b) % 251) hm.2 (by omega) (by omega) h41 hb.2 (by omega) (by omega) hK
    repeat' (first | intro _ | refine And.intro ?_ ?_)
    all_goals first | omega | exact main
theorem x156 (hO : rowOk f) (hr : rL σ 7 f) (hpr : rP σ 7 f) (h4 : σ 7 4 = f 480) (h6 : σ 7 6 = cntF f 40 0 0) (hK : ∀ σ', iC σ σ' (imF f) → K none (T0 n) σ') : Rn 156 0 [some (vR 146), some (vR 7), none, none] [] (T0 n) σ K := by
  have ib := imB_ok hO
  have h0 : iC σ (sc σ 146 (up1 (σ 146) 1 0)) [] := ⟨fun k k1 k2 => by rw [sc_at, if_neg k1], by simp [sc_at, up1], trivial⟩
  simp only [s156_0, s156_1, s156_2, s156_5, s156_6, s156_7, s156_10, sx_push, tf, List.length_cons, List.length_nil, Option.some.injEq, exists_eq_left', Nat.reduceAdd, Nat.reduceLeDiff, true_and, and_true, true_or, or_true, Int.zero_add, Nat.zero_le, eq_self, ne_eq, not_true_eq_false, not_false_eq_true, false_implies, true_implies, implies_true, b2i_0, b2i_1, b2i_01, up_sc, sc_at, sc_sc, ite_true, ite_false, if_true, if_false, Nat.reduceEqDiff, reduceIte, h4]
  refine x157 h0 (by simp) (fun σ1 h1 => ?_)
  have g1 : σ1 7 = σ 7 := h1.1 7 (by decide) (by decide)
  simp only [s156_13, s156_14, s156_15, s156_18, sx_push, tf, List.length_cons, List.length_nil, Option.some.injEq, exists_eq_left', Nat.reduceAdd, Nat.reduceLeDiff, true_and, and_true, true_or, or_true, Int.zero_add, Nat.zero_le, eq_self, ne_eq, not_true_eq_false, not_false_eq_true, false_implies, true_implies, implies_true, b2i_0, b2i_1, b2i_01, up_sc, sc_at, sc_sc, ite_true, ite_false, if_true, if_false, Nat.reduceEqDiff, reduceIte, g1, h6]
  refine x157 h1 (by simp) (fun σ2 h2 => ?_)
  simp only [s156_21, s156_22, sx_push, tf, List.length_cons, List.length_nil, Option.some.injEq, exists_eq_left', Nat.reduceAdd, Nat.reduceLeDiff, true_and, and_true, true_or, or_true, Int.zero_add, Nat.zero_le, eq_self, ne_eq, not_true_eq_false, not_false_eq_true, false_implies, true_implies, implies_true, b2i_0, b2i_1, b2i_01, up_sc, sc_at, sc_sc, ite_true, ite_false, if_true, if_false, Nat.reduceEqDiff, reduceIte]
  refine x156l hO hr hpr 40 0 σ2 _ _ (by omega) (by omega) h2 (by simp) (fun σ3 h3 u => ?_)
  change iC σ σ3 (imB f) at h3
  unfold imF at hK
  generalize imB f = B at *
  simp only [s156_132, s156_135, s156_136, s156_137, sx_push, tf, List.length_cons, List.length_nil, Option.some.injEq, exists_eq_left', Nat.reduceAdd, Nat.reduceLeDiff, true_and, and_true, true_or, or_true, Int.zero_add, Nat.zero_le, eq_self, ne_eq, not_true_eq_false, not_false_eq_true, false_implies, true_implies, implies_true, b2i_0, b2i_1, b2i_01, up_sc, sc_at, sc_sc, ite_true, ite_false, if_true, if_false, Nat.reduceEqDiff, reduceIte]
  refine x156c B 0 149 h3.2.2 (by rw [h3.2.1]; omega) (by omega) (by rw [h3.2.1]; omega) ib.1 (by omega) (by omega) ?_
  simp only [s156_163, s156_164, s156_165, sx_push, tf, List.length_cons, List.length_nil, Option.some.injEq, exists_eq_left', Nat.reduceAdd, Nat.reduceLeDiff, true_and, and_true, true_or, or_true, Int.zero_add, Nat.zero_le, eq_self, ne_eq, not_true_eq_false, not_false_eq_true, false_implies, true_implies, implies_true, b2i_0, b2i_1, b2i_01, up_sc, sc_at, sc_sc, ite_true, ite_false, if_true, if_false, Nat.reduceEqDiff, reduceIte]
  refine x157 h3 ib.2 (fun σ4 h4 => ?_)
  simp only [s156_168, sx_push, tf, List.length_cons, List.length_nil, Option.some.injEq, exists_eq_left', Nat.reduceAdd, Nat.reduceLeDiff, true_and, and_true, true_or, or_true, Int.zero_add, Nat.zero_le, eq_self, ne_eq, not_true_eq_false, not_false_eq_true, false_implies, true_implies, implies_true, b2i_0, b2i_1, b2i_01, up_sc, sc_at, sc_sc, ite_true, ite_false, if_true, if_false, Nat.reduceEqDiff, reduceIte]
  exact hK σ4 h4
theorem cl43 : call2 n c 155 280 [some (vR 1)] [some (vR 149), none, none] := fun σ h => by
  have h' := h
  obtain ⟨hP, hO, hM, hH, hT, hR, hS, hF, hQ, hV, hI, hG, hW⟩ := h'
  have ib := imB_ok hO
  have m5 := hO.2.2.2
  rcases hM with ⟨m1, m2⟩ | ⟨m1, m2, m3⟩
  · simp only [s155_0, s155_1, s155_4, s155_7, s155_8, s155_11, s155_12, s155_13, s155_14, s155_17, s155_18, s155_21, sx_push, tf, List.length_cons, List.length_nil, Option.some.injEq, exists_eq_left', Nat.reduceAdd, Nat.reduceLeDiff, true_and, and_true, true_or, or_true, Int.zero_add, Nat.zero_le, eq_self, ne_eq, not_true_eq_false, not_false_eq_true, false_implies, true_implies, implies_true, b2i_0, b2i_1, b2i_01, up_sc, sc_at, sc_sc, ite_true, ite_false, if_true, if_false, Nat.reduceEqDiff, reduceIte]
    repeat' (first | intro _ | refine And.intro ?_ ?_)
    all_goals first | omega | skip
    refine x156 hO hP.1.1 hP.1.2.1 m2 hP.1.2.2.2 (fun σ1 a1 => ?_)
    simp only [s155_24, s155_25, s155_28, s155_31, sx_push, tf, List.length_cons, List.length_nil, Option.some.injEq, exists_eq_left', Nat.reduceAdd, Nat.reduceLeDiff, true_and, and_true, true_or, or_true, Int.zero_add, Nat.zero_le, eq_self, ne_eq, not_true_eq_false, not_false_eq_true, false_implies, true_implies, implies_true, b2i_0, b2i_1, b2i_01, up_sc, sc_at, sc_sc, ite_true, ite_false, if_true, if_false, Nat.reduceEqDiff, reduceIte, a1.2.1]
    refine ⟨_, rfl, ?_⟩
    have q : ∀ k, k ≠ 146 → k ≠ 147 → σ1 k = σ k := a1.1
    refine x280 (by rw [q 150 (by decide) (by decide)]; exact hO) (by rw [q 149 (by decide) (by decide)]; omega) (fun σ2 b1 => ?_)
    rw [q 150 (by decide) (by decide)] at b1 ⊢
    have li : (imF (σ 150)).length ≤ 243 := by unfold imF; rw [List.length_append]; simp only [List.length_cons, List.length_nil]; omega
    generalize imF (σ 150) = B at *
    have g : ∀ k, k ≠ 146 → k ≠ 147 → k ≠ 149 → k ≠ 169 → σ2 k = σ k := fun k k1 k2 k3 k4 => by rw [b1.1 k k3 k4, q k k1 k2]
    have g9 : ∀ j, j ≠ 41 → σ2 149 j = σ 149 j := fun j hj => by rw [b1.2.1 j hj, q 149 (by decide) (by decide)]
    refine ⟨rfl, rfl, Rel_up h (fun k hk => ?_) (g9 4 (by decide)) (g9 6 (by decide)) ?_ ?_ ?_ ?_ ?_ ?_ ?_ ?_, g 0 (by decide) (by decide) (by decide) (by decide)⟩
    · unfold ptc at hk; exact g k (by omega) (by omega) (by omega) (by omega)
    · rw [g 2 (by decide) (by decide) (by decide) (by decide), g 3 (by decide) (by decide) (by decide) (by decide), g 154 (by decide) (by decide) (by decide) (by decide)]; unfold relT; rw [g9 8 (by decide)]; exact hT
    · rw [g 148 (by decide) (by decide) (by decide) (by decide), g 155 (by decide) (by decide) (by decide) (by decide)]; exact relR_w hR (by omega)
    · rw [g 1 (by decide) (by decide) (by decide) (by decide)]; unfold relS; rw [g9 5 (by decide)]; exact hS
    · rw [g 4 (by decide) (by decide) (by decide) (by decide)]; unfold relF; rw [g9 10 (by decide), g9 11 (by decide)]; exact hF
    · rw [g 119 (by decide) (by decide) (by decide) (by decide), g 122 (by decide) (by decide) (by decide) (by decide), g 123 (by decide) (by decide) (by decide) (by decide), g 124 (by decide) (by decide) (by decide) (by decide), g 125 (by decide) (by decide) (by decide) (by decide), g 161 (by decide) (by decide) (by decide) (by decide)]; unfold relQ; rw [g9 26 (by decide), g9 27 (by decide), g9 28 (by decide), g9 29 (by decide), g9 30 (by decide)]; exact hQ
    · rw [g 141 (by decide) (by decide) (by decide) (by decide), g 142 (by decide) (by decide) (by decide) (by decide), g 143 (by decide) (by decide) (by decide) (by decide), g 144 (by decide) (by decide) (by decide) (by decide), g 166 (by decide) (by decide) (by decide) (by decide), g 167 (by decide) (by decide) (by decide) (by decide), g 168 (by decide) (by decide) (by decide) (by decide)]; unfold relV; rw [g9 36 (by decide)]; exact hV
    · rw [b1.1 146 (by decide) (by decide), b1.1 147 (by decide) (by decide)]
      refine ⟨by rw [a1.2.1, b1.2.2.1], by rw [b1.2.2.1]; omega, fun k k0 k1 => ?_⟩
      rw [b1.2.2.1] at k1
      exact lsA_eq B 0 k a1.2.2 b1.2.2.2 k0 (by omega)
    · rw [g 119 (by decide) (by decide) (by decide) (by decide), g 126 (by decide) (by decide) (by decide) (by decide)]
      exact ⟨⟨rfl, rfl⟩, rfl⟩
  · have x155f : ∀ K : Option sxV → sxT → sxS → Prop, K (some (vI (-1))) (T0 n) σ → Rn 155 0 [some (vR 1)] [] (T0 n) σ K := fun K hK => by
      simp only [s155_0, s155_1, s155_4, s155_7, s155_8, s155_11, s155_12, sx_push, tf, List.length_cons, List.length_nil, Option.some.injEq, exists_eq_left', Nat.reduceAdd, Nat.reduceLeDiff, true_and, and_true, true_or, or_true, Int.zero_add, Nat.zero_le, eq_self, ne_eq, not_true_eq_false, not_false_eq_true, false_implies, true_implies, implies_true, b2i_0, b2i_1, b2i_01, up_sc, sc_at, sc_sc, ite_true, ite_false, if_true, if_false, Nat.reduceEqDiff, reduceIte]
      repeat' (first | intro _ | refine And.intro ?_ ?_)
      all_goals first | exact hK | omega
    refine x155f _ ⟨rfl, _, rfl, ?_⟩
    have x280f : ∀ K : Option sxV → sxT → sxS → Prop, K (some (vI (-1))) (T0 n) σ → Rn 280 0 [some (vR 149), none, none] [] (T0 n) σ K := fun K hK => by
      simp only [s280_0, s280_1, s280_4, s280_7, s280_8, sx_push, tf, List.length_cons, List.length_nil, Option.some.injEq, exists_eq_left', Nat.reduceAdd, Nat.reduceLeDiff, true_and, and_true, true_or, or_true, Int.zero_add, Nat.zero_le, eq_self, ne_eq, not_true_eq_false, not_false_eq_true, false_implies, true_implies, implies_true, b2i_0, b2i_1, b2i_01, up_sc, sc_at, sc_sc, ite_true, ite_false, if_true, if_false, Nat.reduceEqDiff, reduceIte]
      repeat' (first | intro _ | refine And.intro ?_ ?_)
      all_goals first | exact hK | omega | contradiction
    exact x280f _ ⟨rfl, rfl, Rel_w h (by omega), rfl⟩
end I1
