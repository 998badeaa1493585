/-! how far: of the reference -/
theorem sx_toN {v : Int32} {a : Nat} (h : v.toBitVec.toNat = a) (ha : a < 2 ^ 31) : v.toInt = (a : Int) := by
  show v.toBitVec.toInt = _
  rw [BitVec.toInt_eq_toNat_of_lt (by omega), h]
theorem sx_ofN {a : Nat} (ha : a < 2 ^ 31) : (Int32.ofInt (a : Int)).toBitVec.toNat = a := by
  show (BitVec.ofInt 32 (a : Int)).toNat = a
  rw [BitVec.ofInt_natCast, BitVec.toNat_ofNat]
  omega
theorem sx_andN {a b : Nat} (ha : a < 2 ^ 31) (hb : b < 2 ^ 31) : sx_and (a : Int) (b : Int) = ((a &&& b : Nat) : Int) := by
  unfold sx_and
  refine sx_toN ?_ (Nat.and_lt_two_pow _ hb)
  rw [Int32.toBitVec_and, BitVec.toNat_and, sx_ofN ha, sx_ofN hb]
theorem sx_orN {a b : Nat} (ha : a < 2 ^ 31) (hb : b < 2 ^ 31) : sx_or (a : Int) (b : Int) = ((a ||| b : Nat) : Int) := by
  unfold sx_or
  refine sx_toN ?_ (Nat.or_lt_two_pow ha hb)
  rw [Int32.toBitVec_or, BitVec.toNat_or, sx_ofN ha, sx_ofN hb]
theorem sx_xorN {a b : Nat} (ha : a < 2 ^ 31) (hb : b < 2 ^ 31) : sx_xor (a : Int) (b : Int) = ((a ^^^ b : Nat) : Int) := by
  unfold sx_xor
  refine sx_toN ?_ (Nat.xor_lt_two_pow ha hb)
  rw [Int32.toBitVec_xor, BitVec.toNat_xor, sx_ofN ha, sx_ofN hb]
theorem sx_xor8 {a b : Int} (ha : 0 ≤ a) (ha' : a ≤ 255) (hb : 0 ≤ b) (hb' : b ≤ 255) : 0 ≤ sx_xor a b ∧ sx_xor a b ≤ 255 := by
  obtain ⟨x, rfl⟩ := Int.eq_ofNat_of_zero_le ha
  obtain ⟨y, rfl⟩ := Int.eq_ofNat_of_zero_le hb
  rw [sx_xorN (by omega) (by omega)]
  have : x ^^^ y < 2 ^ 8 := Nat.xor_lt_two_pow (by omega) (by omega)
  omega
def popF : Nat → Int → Int → Int
  | 0, _, n => n
  | k + 1, s, n => if s = 0 then n else popF k (sx_and s (s - 1)) (n + 1)
def popZ : Nat → Int → Bool
  | 0, s => decide (s = 0)
  | k + 1, s => decide (s = 0) || (decide (0 ≤ s ∧ s ≤ 255) && popZ k (sx_and s (s - 1)))
theorem popZ8 : ∀ v : Fin 256, popZ 8 ((v : Nat) : Int) = true := by decide +kernel
theorem popB8 : ∀ v : Fin 256, 0 ≤ popF 8 ((v : Nat) : Int) 0 ∧ popF 8 ((v : Nat) : Int) 0 ≤ 8 := by decide +kernel
def bitsF (v : Int) : Int := popF 8 v 0
theorem bitsF_in {v : Int} (h0 : 0 ≤ v) (h1 : v ≤ 255) : 0 ≤ bitsF v ∧ bitsF v ≤ 8 := by
  have := popB8 ⟨v.toNat, by omega⟩
  rw [show (((⟨v.toNat, by omega⟩ : Fin 256) : Nat) : Int) = v from by show ((v.toNat : Nat) : Int) = v; omega] at this
  exact this
theorem bitsZ {v : Int} (h0 : 0 ≤ v) (h1 : v ≤ 255) : popZ 8 v = true := by
  have := popZ8 ⟨v.toNat, by omega⟩
  rw [show (((⟨v.toNat, by omega⟩ : Fin 256) : Nat) : Int) = v from by show ((v.toNat : Nat) : Int) = v; omega] at this
  exact this
section M2
variable {n : Nat} {σ : sxS} {K : Option sxV → sxT → sxS → Prop}
theorem x197l {v : Int} : ∀ (k : Nat) (s a : Int), popZ k s = true → 0 ≤ a → a + k ≤ 8 → K (some (vI (popF k s a))) (T0 n) σ → Rn 197 4 [some (vI v), some (vI a), some (vI s)] [] (T0 n) σ K := by
  intro k
  induction k with
  | zero =>
    intro s a hz h0 h1 hK
    simp only [popZ, decide_eq_true_eq] at hz
    rw [s197_4]
    simp only [s197_0, s197_1, s197_2, s197_3, s197_5, s197_8, s197_11, s197_12, s197_13, s197_14, s197_15, s197_16, s197_17, s197_20, s197_21, sx_push, tf, List.length_cons, List.length_nil, Option.some.injEq, exists_eq_left', Nat.reduceAdd, Nat.reduceLeDiff, true_and, and_true, true_or, or_true, Int.zero_add, Nat.zero_le, eq_self, ne_eq, not_true_eq_false, not_false_eq_true, false_implies, true_implies, implies_true, b2i_0, b2i_1, b2i_01, up_sc, sc_at, sc_sc, ite_true, ite_false, if_true, if_false, Nat.reduceEqDiff, reduceIte]
    repeat' (first | intro _ | refine And.intro ?_ ?_)
    all_goals first | exact hK | omega
  | succ k ih =>
    intro s a hz h0 h1 hK
    simp only [popZ, Bool.or_eq_true, Bool.and_eq_true, decide_eq_true_eq] at hz
    unfold popF at hK
    rw [s197_4]
    simp only [s197_0, s197_1, s197_2, s197_3, s197_5, s197_8, s197_11, s197_12, s197_13, s197_14, s197_15, s197_16, s197_17, s197_20, s197_21, sx_push, tf, List.length_cons, List.length_nil, Option.some.injEq, exists_eq_left', Nat.reduceAdd, Nat.reduceLeDiff, true_and, and_true, true_or, or_true, Int.zero_add, Nat.zero_le, eq_self, ne_eq, not_true_eq_false, not_false_eq_true, false_implies, true_implies, implies_true, b2i_0, b2i_1, b2i_01, up_sc, sc_at, sc_sc, ite_true, ite_false, if_true, if_false, Nat.reduceEqDiff, reduceIte]
    repeat' (first | intro _ | refine And.intro ?_ ?_)
    all_goals first | omega | (rw [if_pos (by assumption)] at hK; exact hK) | skip
    · rw [if_neg (by assumption)] at hK
      rcases hz with hz | hz
      · omega
      · exact ih _ _ hz.2 (by omega) (by omega) hK
theorem x197 {v : Int} (h0 : 0 ≤ v) (h1 : v ≤ 255) : Rn 197 0 [some (vI v), none, none] [] (T0 n) σ K ↔ K (some (vI (bitsF v))) (T0 n) σ := by
  refine Rn_iff fun K hK => ?_
  simp only [s197_0, s197_1, s197_2, s197_3, s197_5, s197_8, s197_11, s197_12, s197_13, s197_14, s197_15, s197_16, s197_17, s197_20, s197_21, sx_push, tf, List.length_cons, List.length_nil, Option.some.injEq, exists_eq_left', Nat.reduceAdd, Nat.reduceLeDiff, true_and, and_true, true_or, or_true, Int.zero_add, Nat.zero_le, eq_self, ne_eq, not_true_eq_false, not_false_eq_true, false_implies, true_implies, implies_true, b2i_0, b2i_1, b2i_01, up_sc, sc_at, sc_sc, ite_true, ite_false, if_true, if_false, Nat.reduceEqDiff, reduceIte]
  exact x197l 8 v 0 (bitsZ h0 h1) (by omega) (by omega) hK
def absF (a : Int) : Int := if a < 0 then -a else a
def farF (m a b c x y z : Int) : Int := if m = 2 then bitsF (sx_xor a x) + bitsF (sx_xor b y) + bitsF (sx_xor c z) else if m = 0 then absF (a - x) + absF (b - y) + absF (c - z) else max (absF (a - x)) (max (absF (b - y)) (absF (c - z)))
def in8 (v : Int) : Prop := 0 ≤ v ∧ v ≤ 255
theorem farF_in {m a b c x y z : Int} (ha : in8 a) (hb : in8 b) (hc : in8 c) (hx : in8 x) (hy : in8 y) (hz : in8 z) : 0 ≤ farF m a b c x y z ∧ farF m a b c x y z ≤ 765 := by
  unfold farF
  obtain ⟨q1, q2⟩ := sx_xor8 ha.1 ha.2 hx.1 hx.2
  obtain ⟨q3, q4⟩ := sx_xor8 hb.1 hb.2 hy.1 hy.2
  obtain ⟨q5, q6⟩ := sx_xor8 hc.1 hc.2 hz.1 hz.2
  have := bitsF_in q1 q2
  have := bitsF_in q3 q4
  have := bitsF_in q5 q6
  unfold in8 at *
  unfold absF
  repeat' split
  all_goals omega
theorem x196 {m a b c x y z : Int} (ha : in8 a) (hb : in8 b) (hc : in8 c) (hx : in8 x) (hy : in8 y) (hz : in8 z) : Rn 196 0 [some (vI m), some (vI a), some (vI b), some (vI c), some (vI x), some (vI y), some (vI z), none, none, none] [] (T0 n) σ K ↔ K (some (vI (farF m a b c x y z))) (T0 n) σ := by
  refine Rn_iff fun K hK => ?_
  obtain ⟨q1, q2⟩ := sx_xor8 ha.1 ha.2 hx.1 hx.2
  obtain ⟨q3, q4⟩ := sx_xor8 hb.1 hb.2 hy.1 hy.2
  obtain ⟨q5, q6⟩ := sx_xor8 hc.1 hc.2 hz.1 hz.2
  have b1 := bitsF_in q1 q2
  have b2 := bitsF_in q3 q4
  have b3 := bitsF_in q5 q6
  unfold in8 at *
  simp only [s196_0, s196_1, s196_2, s196_5, s196_6, s196_8, s196_9, s196_12, s196_13, s196_15, s196_16, s196_19, s196_20, s196_21, s196_23, s196_24, s196_27, s196_28, s196_29, s196_30, s196_32, s196_33, s196_36, s196_38, s196_39, s196_41, s196_42, s196_45, s196_47, s196_48, s196_50, s196_51, s196_54, s196_56, s196_57, s196_60, s196_62, s196_64, s196_65, s196_67, s196_68, s196_71, s196_73, s196_75, s196_77, s196_80, s196_83, sx_push, tf, List.length_cons, List.length_nil, Option.some.injEq, exists_eq_left', Nat.reduceAdd, Nat.reduceLeDiff, true_and, and_true, true_or, or_true, Int.zero_add, Nat.zero_le, eq_self, ne_eq, not_true_eq_false, not_false_eq_true, false_implies, true_implies, implies_true, b2i_0, b2i_1, b2i_01, up_sc, sc_at, sc_sc, ite_true, ite_false, if_true, if_false, Nat.reduceEqDiff, reduceIte, x197 q1 q2, x197 q3 q4, x197 q5 q6, x198 (show -1000 ≤ a - x by omega), x198 (show -1000 ≤ b - y by omega), x198 (show -1000 ≤ c - z by omega), x199]
  unfold farF at hK
  refine ⟨fun h => ⟨by omega, by omega, by omega, fun h2 => ?_, fun h2 => ?_⟩, fun h => ?_⟩
  · rw [if_neg h, if_neg h2] at hK; exact hK
  · rw [if_neg h, if_pos h2] at hK
    refine ⟨?_, ?_, hK⟩ <;> (repeat' split) <;> omega
  · rw [if_pos h] at hK
    exact ⟨by omega, by omega, hK⟩
def wfc (f : Int → Int) : Prop := ∀ p, 0 ≤ p → p < 40 → in8 (f (40 + p)) ∧ in8 (f (80 + p)) ∧ in8 (f (120 + p))
def farT (f : Int → Int) (p x y z : Int) : Int := farF (f 480) (f (40 + p)) (f (80 + p)) (f (120 + p)) x y z
theorem x195 {p x y z : Int} (hw : wfc (σ 150)) (hx : in8 x) (hy : in8 y) (hz : in8 z) (h0 : 0 ≤ p) (h1 : p < 40) : Rn 195 0 [some (vR 149), some (vI p), some (vI x), some (vI y), some (vI z)] [] (T0 n) σ K ↔ K (some (vI (farT (σ 150) p x y z))) (T0 n) σ := by
  refine Rn_iff fun K hK => ?_
  obtain ⟨w1, w2, w3⟩ := hw p h0 h1
  simp only [s195_0, s195_1, s195_4, s195_7, s195_8, s195_9, s195_12, s195_14, s195_15, s195_16, s195_17, s195_18, s195_21, s195_23, s195_24, s195_25, s195_26, s195_27, s195_30, s195_32, s195_33, s195_34, s195_35, s195_36, s195_37, s195_39, s195_42, sx_push, tf, List.length_cons, List.length_nil, Option.some.injEq, exists_eq_left', Nat.reduceAdd, Nat.reduceLeDiff, true_and, and_true, true_or, or_true, Int.zero_add, Nat.zero_le, eq_self, ne_eq, not_true_eq_false, not_false_eq_true, false_implies, true_implies, implies_true, b2i_0, b2i_1, b2i_01, up_sc, sc_at, sc_sc, ite_true, ite_false, if_true, if_false, Nat.reduceEqDiff, reduceIte, x196 w1 w2 w3 hx hy hz]
  repeat' (first | intro _ | refine And.intro ?_ ?_)
  all_goals first | exact hK | omega
theorem x216 {p q : Int} (hw : wfc (σ 150)) (h0 : 0 ≤ p) (h1 : p < 40) (g0 : 0 ≤ q) (g1 : q < 40) : Rn 216 0 [some (vR 149), some (vI p), some (vI q)] [] (T0 n) σ K ↔ K (some (vI (farT (σ 150) p (σ 150 (40 + q)) (σ 150 (80 + q)) (σ 150 (120 + q))))) (T0 n) σ := by
  refine Rn_iff fun K hK => ?_
  obtain ⟨w1, w2, w3⟩ := hw q g0 g1
  simp only [s216_0, s216_1, s216_2, s216_3, s216_6, s216_8, s216_9, s216_10, s216_11, s216_12, s216_15, s216_17, s216_18, s216_19, s216_20, s216_21, s216_24, s216_26, s216_27, s216_28, s216_29, s216_32, sx_push, tf, List.length_cons, List.length_nil, Option.some.injEq, exists_eq_left', Nat.reduceAdd, Nat.reduceLeDiff, true_and, and_true, true_or, or_true, Int.zero_add, Nat.zero_le, eq_self, ne_eq, not_true_eq_false, not_false_eq_true, false_implies, true_implies, implies_true, b2i_0, b2i_1, b2i_01, up_sc, sc_at, sc_sc, ite_true, ite_false, if_true, if_false, Nat.reduceEqDiff, reduceIte, x195 hw w1 w2 w3 h0 h1]
  repeat' (first | intro _ | refine And.intro ?_ ?_)
  all_goals first | exact hK | omega
end M2
