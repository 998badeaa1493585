/-! searches: the reference's long one, and the class -/
section S3
variable {n : Nat} {σ : sxS} {K : Option sxV → sxT → sxS → Prop} {f : Int → Int}
theorem x237i (hO : invF f) {x y z k b c w : Int} (hx : in8 x) (hy : in8 y) (hz' : in8 z) (k0 : 1 ≤ k) (k1 : k ≤ 10) (hb : 0 ≤ b ∧ b < 40) : ∀ (m : Nat) (p : Int) (σ : sxS) (st : Int → Int), p + m = 40 → 0 ≤ p → qR2 σ f st b c → (∀ σ', qG σ σ' → qR2 σ' f (ofS f x y z 1 k b m p st) b c → Rn 237 119 [some (vR 149), some (vI x), some (vI y), some (vI z), some (vI w), some (vI k), some (vI (farT f b x y z)), some (vI 40)] [] (T0 n) σ' K) → Rn 237 68 [some (vR 149), some (vI x), some (vI y), some (vI z), some (vI w), some (vI k), some (vI (farT f b x y z)), some (vI p)] [] (T0 n) σ K := by
  intro m
  induction m with
  | zero =>
    intro p σ st hp p0 hq hK
    obtain rfl : p = 40 := by omega
    rw [s237_68]
    simp only [s237_70, s237_72, s237_75, s237_76, s237_79, s237_81, s237_82, s237_83, s237_86, s237_87, s237_89, s237_90, s237_91, s237_92, s237_95, s237_96, s237_98, s237_99, s237_100, s237_102, s237_105, s237_106, s237_109, s237_111, s237_112, s237_113, s237_116, sx_push, tf, List.length_cons, List.length_nil, Option.some.injEq, exists_eq_left', Nat.reduceAdd, Nat.reduceLeDiff, true_and, and_true, true_or, or_true, Int.zero_add, Nat.zero_le, eq_self, ne_eq, not_true_eq_false, not_false_eq_true, false_implies, true_implies, implies_true, b2i_0, b2i_1, b2i_01, up_sc, sc_at, sc_sc, ite_true, ite_false, if_true, if_false, Nat.reduceEqDiff, reduceIte]
    have := hK σ qG_rfl hq
    repeat' (first | intro _ | refine And.intro ?_ ?_)
    all_goals first | omega | exact this
  | succ m ih =>
    intro p σ st hp p0 hq hK
    have p1 : p < 40 := by omega
    have pw := pw_in (k := k) (by omega) k1
    obtain ⟨q1, q2, q3, q4⟩ := hq
    have fp := farT_in hO.2.1 p0 p1 hx hy hz'
    have fb := farT_in hO.2.1 hb.1 hb.2 hx hy hz'
    have x195p := fun K => x195 (n := n) (σ := σ) (K := K) (by rw [q1]; exact hO.2.1) hx hy hz' p0 p1
    rw [q1] at x195p
    rw [s237_68]
    have hc : ofC f x y z 1 k p b = true ↔ farT f p x y z + 2 ^ k.toNat ≤ farT f b x y z := by unfold ofC; rw [if_neg (by decide), decide_eq_true_eq]
    unfold ofS at hK
    by_cases e : st p = 1 ∧ ofC f x y z 1 k p b = true
    · simp only [if_pos e] at hK
      have e2 := hc.mp e.2
      simp only [s237_70, s237_72, s237_75, s237_76, s237_79, s237_81, s237_82, s237_83, s237_86, s237_87, s237_89, s237_90, s237_91, s237_92, s237_95, s237_96, s237_98, s237_99, s237_100, s237_102, s237_105, s237_106, s237_109, s237_111, s237_112, s237_113, s237_116, sx_push, tf, List.length_cons, List.length_nil, Option.some.injEq, exists_eq_left', Nat.reduceAdd, Nat.reduceLeDiff, true_and, and_true, true_or, or_true, Int.zero_add, Nat.zero_le, eq_self, ne_eq, not_true_eq_false, not_false_eq_true, false_implies, true_implies, implies_true, b2i_0, b2i_1, b2i_01, up_sc, sc_at, sc_sc, ite_true, ite_false, if_true, if_false, Nat.reduceEqDiff, reduceIte, q2 p p0 p1, e.1, x195p, Int.one_mul]
      repeat' (first | intro _ | refine And.intro ?_ ?_)
      all_goals first | omega | contradiction | skip
      refine ih (p + 1) _ (up1 st p 2) (by omega) (by omega) ⟨?_, fun q a b => ?_, ?_, ?_⟩ (fun σ2 b1 b2 => hK σ2 (qG_tr ⟨fun k a b => ?_, fun j a b => ?_⟩ b1) b2)
      · simp [sc_at]; exact q1
      · simp only [sc_at, reduceIte]
        unfold up1
        split
        · rfl
        · exact q2 q a b
      · simp [sc_at]; exact q3
      · simp [sc_at]; exact q4
      · rw [sc_at, if_neg b]
      · simp [sc_at]
    · simp only [if_neg e] at hK
      have go : Rn 237 68 [some (vR 149), some (vI x), some (vI y), some (vI z), some (vI w), some (vI k), some (vI (farT f b x y z)), some (vI (p + 1))] [] (T0 n) σ K := ih (p + 1) σ st (by omega) (by omega) ⟨q1, q2, q3, q4⟩ hK
      have e2 : ¬ (st p = 1 ∧ farT f p x y z + 2 ^ k.toNat ≤ farT f b x y z) := fun z => e ⟨z.1, hc.mpr z.2⟩
      simp only [s237_70, s237_72, s237_75, s237_76, s237_79, s237_81, s237_82, s237_83, s237_86, s237_87, s237_89, s237_90, s237_91, s237_92, s237_95, s237_96, s237_98, s237_99, s237_100, s237_102, s237_113, s237_116, sx_push, tf, List.length_cons, List.length_nil, Option.some.injEq, exists_eq_left', Nat.reduceAdd, Nat.reduceLeDiff, true_and, and_true, true_or, or_true, Int.zero_add, Nat.zero_le, eq_self, ne_eq, not_true_eq_false, not_false_eq_true, false_implies, true_implies, implies_true, b2i_0, b2i_1, b2i_01, up_sc, sc_at, sc_sc, ite_true, ite_false, if_true, if_false, Nat.reduceEqDiff, reduceIte, q2 p p0 p1, x195p, Int.one_mul]
      repeat' (first | intro _ | refine And.intro ?_ ?_)
      all_goals first | omega | exact go
theorem x237l (hO : invF f) {x y z w : Int} (hx : in8 x) (hy : in8 y) (hz' : in8 z) : ∀ (m : Nat) (k : Int) (σ : sxS) (st : Int → Int) (b c : Int) (R : List (Int × Int × Int × Int)) (u v : Option sxV), k = m → k ≤ 10 → qR2 σ f st b c → gI f k st → (0 ≤ b ∧ b < 40 ∧ f b = 1) → 0 ≤ c → c + 40 * m ≤ 900 → (∀ (σ' : sxS) st' k2 u v, qG σ σ' → qR2 σ' f st' (srF f x y z 1 m k st b c R).1 (srF f x y z 1 m k st b c R).2.1 → Rn 237 125 [some (vR 149), some (vI x), some (vI y), some (vI z), some (vI w), k2, u, v] [] (T0 n) σ' K) → Rn 237 37 [some (vR 149), some (vI x), some (vI y), some (vI z), some (vI w), some (vI k), u, v] [] (T0 n) σ K := by
  intro m
  induction m with
  | zero =>
    intro k σ st b c R u v hk k1 hq hg hb hc hc' hK
    rw [s237_37]
    simp only [s237_39, s237_42, sx_push, tf, List.length_cons, List.length_nil, Option.some.injEq, exists_eq_left', Nat.reduceAdd, Nat.reduceLeDiff, true_and, and_true, true_or, or_true, Int.zero_add, Nat.zero_le, eq_self, ne_eq, not_true_eq_false, not_false_eq_true, false_implies, true_implies, implies_true, b2i_0, b2i_1, b2i_01, up_sc, sc_at, sc_sc, ite_true, ite_false, if_true, if_false, Nat.reduceEqDiff, reduceIte]
    have := hK σ st (some (vI k)) u v qG_rfl hq
    repeat' (first | intro _ | refine And.intro ?_ ?_)
    all_goals first | omega | exact this
  | succ m ih =>
    intro k σ st b c R u v hk k1 hq hg hb hc hc' hK
    have ls := lkF_spec f hO.2.2.1 x y z 1 k (by omega) k1 40 0 st b c (by omega) (by omega) (gI_w hg (by omega)) (fun q a b e => gI_z hg q a b e) hb
    rw [s237_37]
    simp only [s237_39, s237_42, s237_43, s237_45, s237_46, s237_47, s237_48, s237_49, sx_push, tf, List.length_cons, List.length_nil, Option.some.injEq, exists_eq_left', Nat.reduceAdd, Nat.reduceLeDiff, true_and, and_true, true_or, or_true, Int.zero_add, Nat.zero_le, eq_self, ne_eq, not_true_eq_false, not_false_eq_true, false_implies, true_implies, implies_true, b2i_0, b2i_1, b2i_01, up_sc, sc_at, sc_sc, ite_true, ite_false, if_true, if_false, Nat.reduceEqDiff, reduceIte]
    refine ⟨fun _ => by omega, fun _ => ?_⟩
    simp only [s228_0, s228_1, sx_push, tf, List.length_cons, List.length_nil, Option.some.injEq, exists_eq_left', Nat.reduceAdd, Nat.reduceLeDiff, true_and, and_true, true_or, or_true, Int.zero_add, Nat.zero_le, eq_self, ne_eq, not_true_eq_false, not_false_eq_true, false_implies, true_implies, implies_true, b2i_0, b2i_1, b2i_01, up_sc, sc_at, sc_sc, ite_true, ite_false, if_true, if_false, Nat.reduceEqDiff, reduceIte]
    refine x228l hO.1 hO.2.1 hO.2.2.1 hx hy hz' (by omega) k1 (Or.inr rfl) 40 0 σ st b c _ (by omega) (by omega) hq ⟨hb.1, hb.2.1⟩ hc (by omega) (fun σ1 a1 a2 => ?_)
    unfold srF at hK
    generalize lkF f x y z 1 k 40 0 st b c = L at *
    have os := of_spec f x y z 1 k L.2.1 (k - 1) 40 0 L.1 (by omega) (by omega) ls.1
    have x195b := fun K => x195 (n := n) (σ := σ1) (K := K) (by rw [a2.1]; exact hO.2.1) hx hy hz' ls.2.1.1 ls.2.1.2.1
    rw [a2.1] at x195b
    simp only [s237_52, s237_53, s237_54, s237_57, s237_58, s237_59, s237_60, s237_63, s237_65, s237_66, sx_push, tf, List.length_cons, List.length_nil, Option.some.injEq, exists_eq_left', Nat.reduceAdd, Nat.reduceLeDiff, true_and, and_true, true_or, or_true, Int.zero_add, Nat.zero_le, eq_self, ne_eq, not_true_eq_false, not_false_eq_true, false_implies, true_implies, implies_true, b2i_0, b2i_1, b2i_01, up_sc, sc_at, sc_sc, ite_true, ite_false, if_true, if_false, Nat.reduceEqDiff, reduceIte, a2.2.2.1, x195b]
    refine x237i hO hx hy hz' (by omega) k1 ⟨ls.2.1.1, ls.2.1.2.1⟩ 40 0 σ1 L.1 (by omega) (by omega) a2 (fun σ2 b1 b2 => ?_)
    generalize ofS f x y z 1 k L.2.1 40 0 L.1 = st2 at *
    generalize ofR f x y z 1 k L.2.1 40 0 L.1 = R2 at *
    have e : k + -1 = k - 1 := by omega
    simp only [s237_119, s237_122, sx_push, tf, List.length_cons, List.length_nil, Option.some.injEq, exists_eq_left', Nat.reduceAdd, Nat.reduceLeDiff, true_and, and_true, true_or, or_true, Int.zero_add, Nat.zero_le, eq_self, ne_eq, not_true_eq_false, not_false_eq_true, false_implies, true_implies, implies_true, b2i_0, b2i_1, b2i_01, up_sc, sc_at, sc_sc, ite_true, ite_false, if_true, if_false, Nat.reduceEqDiff, reduceIte, e]
    exact ⟨by omega, ih (k - 1) σ2 st2 L.2.1 L.2.2 (R ++ R2) _ _ (by omega) (by omega) b2 os.1 ls.2.1 (by omega) (by omega) (fun σ' st' k2 u v d1 d2 => hK σ' st' k2 u v (qG_tr a1 (qG_tr b1 d1)) d2)⟩
def remS2 (f : Int → Int) (x y z w : Int) (S : Int × Int × List (Int × Int × Int × Int)) : Int := if w = 0 then S.1 else if w = 1 then farT f S.1 x y z else S.2.1
theorem x237 (hO : invF (σ 150)) {x y z w : Int} (hx : in8 x) (hy : in8 y) (hz' : in8 z) (hr : rootF (σ 150) 40 0 ≠ -1) (hw : 0 ≤ w ∧ w ≤ 2) (hK : ∀ σ', qG σ σ' → K (some (vI (remS2 (σ 150) x y z w (seekF (σ 150) x y z 1)))) (T0 n) σ') : Rn 237 0 [some (vR 149), some (vI x), some (vI y), some (vI z), some (vI w), none, none, none] [] (T0 n) σ K := by
  have rn := root_n1 hO hr
  have hp : (0 ≤ x ∧ x ≤ 255) ∧ (0 ≤ y ∧ y ≤ 255) ∧ 0 ≤ z ∧ z ≤ 255 := ⟨hx, hy, hz'⟩
  have sp := seekF_spec hO x y z 1 rn
  have x226' := fun K => x226 (n := n) (σ := σ) (K := K) (a := x) (b := y) (c := z)
  rw [b2i_t hp] at x226'
  have x185' := fun K => x185 (n := n) (σ := σ) (K := K) (v := w) (lo := 0) (hi := 2)
  rw [b2i_t hw] at x185'
  simp only [s237_0, s237_1, s237_4, s237_5, s237_8, s237_9, s237_10, s237_11, s237_14, s237_17, s237_19, s237_20, s237_21, s237_24, s237_27, s237_28, s237_29, s237_30, Int.reduceToNat, Int.reducePow, Nat.reducePow, Int.reduceLE, Int.reduceLT, Int.reduceNeg, Int.reduceEq, Int.reduceNe, Int.reduceAdd, Int.reduceSub, Int.reduceMul, and_self, sx_push, tf, List.length_cons, List.length_nil, Option.some.injEq, exists_eq_left', Nat.reduceAdd, Nat.reduceLeDiff, true_and, and_true, true_or, or_true, Int.zero_add, Nat.zero_le, eq_self, ne_eq, not_true_eq_false, not_false_eq_true, false_implies, true_implies, implies_true, b2i_0, b2i_1, b2i_01, up_sc, sc_at, sc_sc, ite_true, ite_false, if_true, if_false, Nat.reduceEqDiff, reduceIte, x203, x226', x185']
  repeat' (first | intro _ | refine And.intro ?_ ?_)
  all_goals first | omega | contradiction | skip
  refine x227 rn.1 (fun σ1 a1 a2 a3 => ?_)
  have g150 : σ1 150 = σ 150 := a1 150 (by decide) (by decide)
  simp only [s237_33, s237_35, sx_push, tf, List.length_cons, List.length_nil, Option.some.injEq, exists_eq_left', Nat.reduceAdd, Nat.reduceLeDiff, true_and, and_true, true_or, or_true, Int.zero_add, Nat.zero_le, eq_self, ne_eq, not_true_eq_false, not_false_eq_true, false_implies, true_implies, implies_true, b2i_0, b2i_1, b2i_01, up_sc, sc_at, sc_sc, ite_true, ite_false, if_true, if_false, Nat.reduceEqDiff, reduceIte]
  refine x237l (f := σ 150) hO hx hy hz' 10 10 _ (fun p => if p = rootF (σ 150) 40 0 then 1 else 0) (rootF (σ 150) 40 0) 1 [] _ _ (by omega) (by omega) ⟨g150, a3, ?_, ?_⟩ (gI_root rn) ⟨rn.1.1, rn.1.2, rn.2.1⟩ (by omega) (by omega) (fun σ2 st' k2 u v b1 b2 => ?_)
  · rw [a2, up1_n (by decide), up1_s]
  · rw [a2, up1_s]
  · change qR2 σ2 (σ 150) st' (seekF (σ 150) x y z 1).1 (seekF (σ 150) x y z 1).2.1 at b2
    generalize seekF (σ 150) x y z 1 = S at *
    obtain ⟨q1, q2, q3, q4⟩ := b2
    have x195b := fun K => x195 (n := n) (σ := σ2) (K := K) (by rw [q1]; exact hO.2.1) hx hy hz' sp.1.1.1 sp.1.1.2
    rw [q1] at x195b
    have hG : qG σ σ2 := qG_tr ⟨a1, fun j j1 j2 => by rw [a2, up1_n j2, up1_n j1]⟩ b1
    have hK := hK σ2 hG
    unfold remS2 at hK
    simp only [s237_125, s237_127, s237_130, s237_131, s237_134, s237_137, s237_139, s237_140, s237_143, s237_144, s237_145, s237_148, s237_149, s237_150, s237_151, s237_154, s237_157, s237_158, s237_161, sx_push, tf, List.length_cons, List.length_nil, Option.some.injEq, exists_eq_left', Nat.reduceAdd, Nat.reduceLeDiff, true_and, and_true, true_or, or_true, Int.zero_add, Nat.zero_le, eq_self, ne_eq, not_true_eq_false, not_false_eq_true, false_implies, true_implies, implies_true, b2i_0, b2i_1, b2i_01, up_sc, sc_at, sc_sc, ite_true, ite_false, if_true, if_false, Nat.reduceEqDiff, reduceIte, q3, x195b, q4]
    rcases (show w = 0 ∨ w = 1 ∨ w = 2 by omega) with z | z | z <;> subst z
    · rw [if_pos rfl] at hK
      repeat' (first | intro _ | refine And.intro ?_ ?_)
      all_goals first | omega | exact hK | contradiction
    · rw [if_neg (by decide), if_pos rfl] at hK
      repeat' (first | intro _ | refine And.intro ?_ ?_)
      all_goals first | omega | exact hK | contradiction
    · rw [if_neg (by decide), if_neg (by decide)] at hK
      repeat' (first | intro _ | refine And.intro ?_ ?_)
      all_goals first | omega | exact hK | contradiction
theorem x237f {x y z w : Int} (h : rootF (σ 150) 40 0 = -1 ∨ ¬ ((0 ≤ x ∧ x ≤ 255) ∧ (0 ≤ y ∧ y ≤ 255) ∧ 0 ≤ z ∧ z ≤ 255) ∨ ¬ (0 ≤ w ∧ w ≤ 2)) : Rn 237 0 [some (vR 149), some (vI x), some (vI y), some (vI z), some (vI w), none, none, none] [] (T0 n) σ K ↔ K (some (vI (-1))) (T0 n) σ := by
  refine Rn_iff fun K hK => ?_
  simp only [s237_0, s237_1, s237_4, s237_5, s237_8, s237_9, s237_10, s237_11, s237_14, s237_17, s237_19, s237_20, s237_21, s237_24, s237_27, s237_28, sx_push, tf, List.length_cons, List.length_nil, Option.some.injEq, exists_eq_left', Nat.reduceAdd, Nat.reduceLeDiff, true_and, and_true, true_or, or_true, Int.zero_add, Nat.zero_le, eq_self, ne_eq, not_true_eq_false, not_false_eq_true, false_implies, true_implies, implies_true, b2i_0, b2i_1, b2i_01, up_sc, sc_at, sc_sc, ite_true, ite_false, if_true, if_false, Nat.reduceEqDiff, reduceIte, x203, x226, x185]
  repeat' (first | intro _ | refine And.intro ?_ ?_)
  all_goals first | exact hK | omega
end S3
/-- rows of those pruned, one array a column -/
def rowsC : List (Int × Int × Int × Int) → Int → (Int → Int) → (Int → Int) → (Int → Int) → (Int → Int) → Prop
  | [], _, _, _, _, _ => True
  | r :: R, i, a, b, c, d => (a i = r.1 ∧ b i = r.2.1 ∧ c i = r.2.2.1 ∧ d i = r.2.2.2) ∧ rowsC R (i + 1) a b c d
theorem rowsC_cg {a b c d a' b' c' d' : Int → Int} : ∀ (R : List (Int × Int × Int × Int)) (i : Int), (∀ j, j < i + R.length → a' j = a j ∧ b' j = b j ∧ c' j = c j ∧ d' j = d j) → rowsC R i a b c d → rowsC R i a' b' c' d' := by
  intro R
  induction R with
  | nil => intro i _ _; trivial
  | cons r R ih =>
    intro i e hg
    simp only [List.length_cons] at e
    refine ⟨?_, ih (i + 1) (fun j hj => e j (by omega)) hg.2⟩
    have z := e i (by omega)
    rw [z.1, z.2.1, z.2.2.1, z.2.2.2]
    exact hg.1
theorem rowsC_ap {a b c d : Int → Int} {r : Int × Int × Int × Int} : ∀ (R : List (Int × Int × Int × Int)) (i : Int), rowsC R i a b c d → rowsC [r] (i + R.length) a b c d → rowsC (R ++ [r]) i a b c d := by
  intro R
  induction R with
  | nil => intro i _ h; simpa using h
  | cons q R ih =>
    intro i h h2
    refine ⟨h.1, ih (i + 1) h.2 ?_⟩
    simp only [List.length_cons] at h2
    rw [show i + 1 + (R.length : Int) = i + ((R.length + 1 : Nat) : Int) by omega]
    exact h2
theorem sum_tot {a b c d : Int → Int} : ∀ (R : List (Int × Int × Int × Int)) (i v : Int), rowsC R i a b c d → sumF d R.length i v = v + tot R := by
  intro R
  induction R with
  | nil => intro i v _; simp [sumF, tot]
  | cons r R ih =>
    intro i v h
    simp only [List.length_cons, sumF, tot]
    rw [ih (i + 1) (v + d i) h.2, h.1.2.2.2]
    omega
theorem rows_eq {a b c d g : Int → Int} : ∀ (R : List (Int × Int × Int × Int)) (i k : Int), okR R → rowsC R i a b c d → rowsA R i g → i ≤ k → k < i + R.length → a k = g (4 * k) ∧ b k = g (4 * k + 1) ∧ c k = g (4 * k + 2) ∧ d k = g (4 * k + 3) ∧ 0 ≤ d k ∧ d k ≤ 40 := by
  intro R
  induction R with
  | nil => intro i k _ _ _ h1 h2; simp only [List.length_nil] at h2; omega
  | cons r R ih =>
    intro i k ho h1 h2 k0 k1
    simp only [List.length_cons] at k1
    by_cases e : k = i
    · subst e
      obtain ⟨⟨c1, c2, c3, c4⟩, -⟩ := h1
      obtain ⟨⟨d1, d2, d3, d4⟩, -⟩ := h2
      rw [c1, c2, c3, c4, d1, d2, d3, d4]
      exact ⟨rfl, rfl, rfl, rfl, ho.1.1, ho.1.2⟩
    · exact ih (i + 1) k ho.2 h1.2 h2.2 (by omega) (by omega)
