/-! chance -/
theorem land31 {a : Int} (h0 : 0 ≤ a) (h1 : a < 9223372036854775808) : sx_land a 2147483647 = a % 2147483648 := by
  obtain ⟨x, rfl⟩ := Int.eq_ofNat_of_zero_le h0
  unfold sx_land
  have e1 : (Int64.ofInt (x : Int)).toBitVec.toNat = x := by
    show (BitVec.ofInt 64 (x : Int)).toNat = x
    rw [BitVec.ofInt_natCast, BitVec.toNat_ofNat]; omega
  have e2 : (Int64.ofInt 2147483647).toBitVec.toNat = 2147483647 := by decide
  have e3 : (Int64.ofInt (x : Int) &&& Int64.ofInt 2147483647).toBitVec.toNat = x % 2147483648 := by
    rw [Int64.toBitVec_and, BitVec.toNat_and, e1, e2, show (2147483647 : Nat) = 2 ^ 31 - 1 from rfl, Nat.and_two_pow_sub_one_eq_mod]
  show (Int64.ofInt (x : Int) &&& Int64.ofInt 2147483647).toBitVec.toInt = _
  rw [BitVec.toInt_eq_toNat_of_lt (by rw [e3]; omega), e3]
  omega
theorem kth_in (c : Int → Bool) (kk : Int) (hk : 0 ≤ kk) : ∀ (k : Nat) (p a : Int), kth c kk k p a = -1 ∨ (p ≤ kth c kk k p a ∧ kth c kk k p a < p + k ∧ c (kth c kk k p a) = true) := by
  intro k
  induction k with
  | zero => intro p a; left; unfold kth; rw [if_neg (by omega)]
  | succ k ih =>
    intro p a
    unfold kth
    split
    · rename_i e
      split
      · exact Or.inr ⟨by omega, by omega, e⟩
      · rcases ih (p + 1) (a + 1) with z | z
        · exact Or.inl z
        · exact Or.inr ⟨by omega, by omega, z.2.2⟩
    · rcases ih (p + 1) a with z | z
      · exact Or.inl z
      · exact Or.inr ⟨by omega, by omega, z.2.2⟩
def canB (f : Int → Int) (x y z : Int) : Prop := fnd (fun p => decide (f p = 1 ∧ f (40 + p) = x ∧ f (80 + p) = y ∧ f (120 + p) = z)) 40 0 = -1 ∧ fnd (fun p => decide (f p = 0)) 40 0 ≠ -1
def cbB (f : Int → Int) (x y z : Int) : Bool := decide (fnd (fun p => decide (f p = 1 ∧ f (40 + p) = x ∧ f (80 + p) = y ∧ f (120 + p) = z)) 40 0 = -1) && decide (fnd (fun p => decide (f p = 0)) 40 0 ≠ -1)
theorem cbB_iff {f : Int → Int} {x y z : Int} : cbB f x y z = true ↔ canB f x y z := by unfold cbB canB; simp
def d2 (s m : Int) : Int := s / 64 % m
def netK (f : Int → Int) (k : Int) : Int := kth (fun p => decide (f p = 1 ∧ 0 ≤ f (160 + p))) k 40 0 0
def chF (f : Int → Int) (s : Int) : Int → Int := if d2 (drawF s) 3 < 2 then (if cbB f (d2 (drawF (drawF s)) 256) (d2 (drawF (drawF (drawF s))) 256) (d2 (drawF (drawF (drawF (drawF s)))) 256) = true then comeN f (d2 (drawF (drawF s)) 256) (d2 (drawF (drawF (drawF s))) 256) (d2 (drawF (drawF (drawF (drawF s)))) 256) else f) else (if netK f (d2 (drawF (drawF s)) (max 1 (cntF f 40 0 0))) = -1 then f else goesF f (netK f (d2 (drawF (drawF s)) (max 1 (cntF f 40 0 0)))))
def chD (s : Int) : Int := if d2 (drawF s) 3 < 2 then drawF (drawF (drawF (drawF s))) else drawF (drawF s)
def chN (f : Int → Int) (s : Int) : Nat → (Int → Int) × Int
  | 0 => (f, s)
  | m + 1 => chN (chF f s) (chD s) m
section CH
variable {n : Nat} {c : Int} {σ : sxS} {K : Option sxV → sxT → sxS → Prop} {f : Int → Int}
theorem x151 {m : Int} (h0 : 0 ≤ σ 1 11) (h1 : σ 1 11 ≤ 2147483647) (hm : 1 ≤ m) (hm' : m ≤ 1000) : Rn 151 0 [some (vR 1), some (vI m)] [] (T0 n) σ K ↔ K (some (vI (d2 (drawF (σ 1 11)) m))) (T0 n) (sc σ 1 (up1 (σ 1) 11 (drawF (σ 1 11)))) := by
  refine Rn_iff fun K hK => ?_
  have di := drawF_in (σ 1 11)
  have e1 : sx_land (1103515245 * σ 1 11 + 12345) 2147483647 = drawF (σ 1 11) := land31 (by omega) (by omega)
  have e2 : (drawF (σ 1 11) / 64).tmod m = d2 (drawF (σ 1 11)) m := Int.tmod_eq_emod_of_nonneg (by omega)
  have d0 : 0 ≤ d2 (drawF (σ 1 11)) m ∧ d2 (drawF (σ 1 11)) m < m := ⟨Int.emod_nonneg _ (by omega), Int.emod_lt_of_pos _ (by omega)⟩
  simp only [s151_0, s151_1, s151_4, s151_5, s151_8, s151_9, s151_12, s151_13, s151_16, s151_17, s151_20, s151_21, s151_22, s151_25, s151_26, s151_29, s151_30, s151_33, s151_35, s151_36, s151_37, s151_38, s151_39, s151_40, Int.reduceToNat, Int.reducePow, Nat.reducePow, Int.reduceLE, Int.reduceLT, Int.reduceNeg, Int.reduceEq, Int.reduceNe, Int.reduceAdd, Int.reduceSub, Int.reduceMul, and_self, sx_push, tf, List.length_cons, List.length_nil, Option.some.injEq, exists_eq_left', Nat.reduceAdd, Nat.reduceLeDiff, true_and, and_true, true_or, or_true, Int.zero_add, Nat.zero_le, eq_self, ne_eq, not_true_eq_false, not_false_eq_true, false_implies, true_implies, implies_true, b2i_0, b2i_1, b2i_01, up_sc, sc_at, sc_sc, ite_true, ite_false, if_true, if_false, Nat.reduceEqDiff, reduceIte, e1, up1_s, e2]
  repeat' (first | intro _ | refine And.intro ?_ ?_)
  all_goals first | exact hK | omega
theorem comeN_ok (hO : rowOk f) (hf : freeF f ≠ -1) {x y z : Int} (hx : in8 x) (hy : in8 y) (hz : in8 z) : rowOk (comeN f x y z) := by
  have fi := free_in hf
  have ag : ag2 f (blkF (fun _ => 0) (240 + 6 * freeF f) f 6) := fun j hj => by unfold blkF; rw [if_neg (by omega)]
  have bl : ∀ j, (j < 240 + 6 * freeF f ∨ 240 + 6 * freeF f + 6 ≤ j) → blkF (fun _ => 0) (240 + 6 * freeF f) f 6 j = f j := fun j hj => by unfold blkF; rw [if_neg (by omega)]
  have bz : ∀ j, 240 + 6 * freeF f ≤ j → j < 240 + 6 * freeF f + 6 → blkF (fun _ => 0) (240 + 6 * freeF f) f 6 j = 0 := fun j h1 h2 => by unfold blkF; rw [if_pos (by omega)]
  have hOb : rowOk (blkF (fun _ => 0) (240 + 6 * freeF f) f 6) := by
    refine ⟨invF_c2 ag hO.1, rtP_c2 ag hO.2.1, fun p k a b d e => ?_, ?_, ?_⟩
    · by_cases z : p = freeF f
      · rw [bz _ (by omega) (by omega)]; omega
      · rw [bl _ (by omega)]; exact hO.2.2.1 p k a b d e
    · rw [bl _ (by omega)]; exact hO.2.2.2.1
    · rw [bl _ (by omega)]; exact hO.2.2.2.2
  exact rowOk_comes hOb fi.1.1 fi.1.2 (by rw [bl _ (by omega), fi.2]; decide) hx hy hz
theorem x36N (hP : PT σ 7 f) (hO : rowOk f) (h4 : σ 7 4 = f 480) (hf : freeF f ≠ -1) {x y z : Int} (hx : in8 x) (hy : in8 y) (hz : in8 z) (hK : ∀ σ', fr σ σ' 7 11 → PT σ' 7 (comeN f x y z) → σ' 7 4 = comeN f x y z 480 → K none (T0 n) σ') : Rn 36 0 [some (vR 7), some (vI (freeF f)), some (vI (pk x y z))] [] (T0 n) σ K := by
  have fi := free_in hf
  have ag : ag2 f (blkF (fun _ => 0) (240 + 6 * freeF f) f 6) := fun j hj => by unfold blkF; rw [if_neg (by omega)]
  have bl : ∀ j, (j < 240 + 6 * freeF f ∨ 240 + 6 * freeF f + 6 ≤ j) → blkF (fun _ => 0) (240 + 6 * freeF f) f 6 j = f j := fun j hj => by unfold blkF; rw [if_neg (by omega)]
  have bz : ∀ j, 240 + 6 * freeF f ≤ j → j < 240 + 6 * freeF f + 6 → blkF (fun _ => 0) (240 + 6 * freeF f) f 6 j = 0 := fun j h1 h2 => by unfold blkF; rw [if_pos (by omega)]
  have f0 : blkF (fun _ => 0) (240 + 6 * freeF f) f 6 (freeF f) = 0 := by rw [bl _ (by omega)]; exact fi.2
  refine x36 isP7 (rA_c2 ag hP.1) (invF_c2 ag hO.1) (by rw [h4]; exact ag 480 (by omega)) fi.1.1 fi.1.2 f0 hx hy hz (fun σ2 b1 b2 b3 b4 b5 => ?_)
  refine hK σ2 b1 ⟨b5, fun q q0 q1 hq => ?_, fun q q0 q1 => ?_⟩ ?_
  · by_cases zq : q = freeF f
    · subst zq
      have := (comesF_t (f := blkF (fun _ => 0) (240 + 6 * freeF f) f 6) (x := x) (y := y) (z := z) fi.1.1 fi.1.2).1
      unfold comeN at hq
      omega
    · unfold comeN at hq
      rw [comesF_n zq (by omega) (by omega) (by omega) (by omega) (by omega), bl _ (by omega)] at hq
      rw [(b4 q zq).2]; exact hP.2.1 q q0 q1 hq
  · rw [b2]
    by_cases zq : q = freeF f
    · have nq := (hP.2.2 q q0 q1).2 (by rw [zq, fi.2]; decide)
      rw [nq]
      refine ⟨fun _ => ?_, fun _ => rfl⟩
      unfold nmF comeN
      rw [comesF_n (by omega) (by omega) (by omega) (by omega) (by omega) (by omega), comesF_n (by omega) (by omega) (by omega) (by omega) (by omega) (by omega), comesF_n (by omega) (by omega) (by omega) (by omega) (by omega) (by omega), comesF_n (by omega) (by omega) (by omega) (by omega) (by omega) (by omega), comesF_n (by omega) (by omega) (by omega) (by omega) (by omega) (by omega), comesF_n (by omega) (by omega) (by omega) (by omega) (by omega) (by omega), bz _ (by omega) (by omega), bz _ (by omega) (by omega), bz _ (by omega) (by omega), bz _ (by omega) (by omega), bz _ (by omega) (by omega), bz _ (by omega) (by omega)]
      rfl
    · have e3 : comeN f x y z q = f q := by unfold comeN; rw [comesF_n zq (by omega) (by omega) (by omega) (by omega) (by omega), bl _ (by omega)]
      have e4 : nmF (comeN f x y z) q = nmF f q := by
        unfold nmF comeN
        rw [comesF_n (by omega) (by omega) (by omega) (by omega) (by omega) (by omega), comesF_n (by omega) (by omega) (by omega) (by omega) (by omega) (by omega), comesF_n (by omega) (by omega) (by omega) (by omega) (by omega) (by omega), comesF_n (by omega) (by omega) (by omega) (by omega) (by omega) (by omega), comesF_n (by omega) (by omega) (by omega) (by omega) (by omega) (by omega), comesF_n (by omega) (by omega) (by omega) (by omega) (by omega) (by omega), bl _ (by omega), bl _ (by omega), bl _ (by omega), bl _ (by omega), bl _ (by omega), bl _ (by omega)]
      rw [e3, e4]
      exact hP.2.2 q q0 q1
  · unfold comeN
    rw [b3, h4, comesF_n (by omega) (by omega) (by omega) (by omega) (by omega) (by omega), bl _ (by omega)]
theorem x126N (hP : PT σ 7 f) (hO : rowOk f) (h4 : σ 7 4 = f 480) {p : Int} (p0 : 0 ≤ p) (p1 : p < 40) (p2 : f p = 1) (hK : ∀ σ', fr σ σ' 7 11 → PT σ' 7 (goesF f p) → σ' 7 4 = goesF f p 480 → K none (T0 n) σ') : Rn 126 0 [some (vR 7), some (vI p), none, none] [] (T0 n) σ K := by
  have ig := inv_goes hO.1 p0 p1 p2
  refine x126 isP7 hP.1 hO.1 hO.2.1 hP.2.1 p0 p1 p2 (fun σ2 b1 b2 b3 b4 b5 => hK σ2 b1 ⟨b4, b5, fun q q0 q1 => ?_⟩ ?_)
  · rw [b2, nmF_n (f := f) (fun j hj => goesF_n (by omega) p1) q0, ig.2 q q0 q1]
    by_cases z : q = p
    · subst z
      rw [up1_s, if_pos rfl]
      exact ⟨fun y => (by cases y), fun _ => rfl⟩
    · rw [up1_n z, if_neg z]; exact hP.2.2 q q0 q1
  · rw [b3, h4, goesF_n (by omega) p1]
theorem x123p (hP : PT σ 7 f) (hO : rowOk f) (h4 : σ 7 4 = f 480) {x y z : Int} (hx : in8 x) (hy : in8 y) (hz : in8 z) : Rn 123 0 [some (vR 1), some (vI (pk x y z))] [] (T0 n) σ K ↔ K (some (vI (b2i (cbB f x y z = true)))) (T0 n) σ := by
  refine Rn_iff fun K hK => ?_
  have ff := fnd_free hO.1.1 40 0 0 (by omega) (by omega)
  have ci := cntF_in hO.1.1 40 0 0 (by omega) (by omega)
  have pr := pk_rng hx hy hz
  have m5 := hO.2.2.2
  have e := cbB_iff (f := f) (x := x) (y := y) (z := z)
  unfold canB at e
  simp only [s123_0, s123_1, s123_4, s123_7, s123_8, s123_11, s123_12, s123_13, s123_16, s123_17, s123_20, s123_23, s123_25, s123_28, s123_29, s123_32, s123_33, s123_36, s123_37, s123_40, s123_41, s123_44, s123_45, sx_push, tf, List.length_cons, List.length_nil, Option.some.injEq, exists_eq_left', Nat.reduceAdd, Nat.reduceLeDiff, true_and, and_true, true_or, or_true, Int.zero_add, Nat.zero_le, eq_self, ne_eq, not_true_eq_false, not_false_eq_true, false_implies, true_implies, implies_true, b2i_0, b2i_1, b2i_01, up_sc, sc_at, sc_sc, ite_true, ite_false, if_true, if_false, Nat.reduceEqDiff, reduceIte, h4, hP.1.2.2.2, x58 isP7 hP.1.1 hO.1.2.1 hx hy hz]
  generalize fnd (fun p => decide (f p = 1 ∧ f (40 + p) = x ∧ f (80 + p) = y ∧ f (120 + p) = z)) 40 0 = a at *
  generalize fnd (fun p => decide (f p = 0)) 40 0 = b at *
  by_cases c1 : a = -1 ∧ b ≠ -1
  · rw [b2i_t (e.mpr c1)] at hK
    repeat' (first | intro _ | refine And.intro ?_ ?_)
    all_goals first | exact hK | omega
  · rw [b2i_f (fun z => c1 (e.mp z))] at hK
    repeat' (first | intro _ | refine And.intro ?_ ?_)
    all_goals first | exact hK | omega
theorem d256 (s : Int) : in8 (d2 s 256) := by unfold d2 in8; omega
theorem netK_in {k : Int} (hk : 0 ≤ k) : netK f k = -1 ∨ ((0 ≤ netK f k ∧ netK f k < 40) ∧ f (netK f k) = 1) := by
  rcases kth_in (fun p => decide (f p = 1 ∧ 0 ≤ f (160 + p))) k hk 40 0 0 with z | ⟨z1, z2, z3⟩
  · exact Or.inl z
  · simp only [decide_eq_true_eq] at z3
    exact Or.inr ⟨⟨z1, by unfold netK; omega⟩, z3.1⟩
theorem chF_ok (hO : rowOk f) (s : Int) : rowOk (chF f s) := by
  unfold chF
  split
  · split
    · rename_i e
      exact comeN_ok hO (cbB_iff.mp e).2 (d256 _) (d256 _) (d256 _)
    · exact hO
  · split
    · exact hO
    · rename_i e
      have z := (netK_in (f := f) (k := d2 (drawF (drawF s)) (max 1 (cntF f 40 0 0))) (Int.emod_nonneg _ (by omega))).resolve_left e
      exact rowOk_goes hO z.1.1 z.1.2 z.2
theorem x150 (hP : PT σ 7 f) (hO : rowOk f) (h4 : σ 7 4 = f 480) (h0 : 0 ≤ σ 1 11) (h1 : σ 1 11 ≤ 2147483647) (hK : ∀ σ', (∀ k, k ≠ 1 → (k < 7 ∨ 11 < k) → σ' k = σ k) → (∀ j, j ≠ 11 → σ' 1 j = σ 1 j) → PT σ' 7 (chF f (σ 1 11)) → σ' 7 4 = chF f (σ 1 11) 480 → σ' 1 11 = chD (σ 1 11) → K none (T0 n) σ') : Rn 150 0 [some (vR 1), none, none, none, none] [] (T0 n) σ K := by
  have ci := cntF_in hO.1.1 40 0 0 (by omega) (by omega)
  have i1 := drawF_in (σ 1 11)
  have i2 := drawF_in (drawF (σ 1 11))
  have i3 := drawF_in (drawF (drawF (σ 1 11)))
  have i4 := drawF_in (drawF (drawF (drawF (σ 1 11))))
  have PTs : ∀ v, PT (sc σ 1 v) 7 f := fun v => PT_cells (fun k k1 k2 => by rw [sc_at, if_neg (by omega)]) hP
  have s74 : ∀ v, sc σ 1 v 7 4 = f 480 := fun v => by rw [sc_at, if_neg (by omega)]; exact h4
  have dr : ∀ (v m : Int), 0 ≤ v → v ≤ 2147483647 → 1 ≤ m → m ≤ 1000 → ∀ K, Rn 151 0 [some (vR 1), some (vI m)] [] (T0 n) (sc σ 1 (up1 (σ 1) 11 v)) K ↔ K (some (vI (d2 (drawF v) m))) (T0 n) (sc σ 1 (up1 (σ 1) 11 (drawF v))) := fun v m v0 v1 m0 m1 K => by
    have e : sc σ 1 (up1 (σ 1) 11 v) 1 11 = v := by simp [sc_at, up1]
    rw [x151 (by rw [e]; exact v0) (by rw [e]; exact v1) m0 m1, e]
    simp only [sc_at, reduceIte, sc_sc, up1_up1]
  simp only [s150_0, s150_1, s150_2, sx_push, tf, List.length_cons, List.length_nil, Option.some.injEq, exists_eq_left', Nat.reduceAdd, Nat.reduceLeDiff, true_and, and_true, true_or, or_true, Int.zero_add, Nat.zero_le, eq_self, ne_eq, not_true_eq_false, not_false_eq_true, false_implies, true_implies, implies_true, b2i_0, b2i_1, b2i_01, up_sc, sc_at, sc_sc, ite_true, ite_false, if_true, if_false, Nat.reduceEqDiff, reduceIte]
  rw [x151 h0 h1 (by omega) (by omega)]
  unfold chF chD at hK
  by_cases e : d2 (drawF (σ 1 11)) 3 < 2
  · rw [if_pos e, if_pos e] at hK
    simp only [s150_5, s150_6, s150_9, s150_10, s150_13, sx_push, tf, List.length_cons, List.length_nil, Option.some.injEq, exists_eq_left', Nat.reduceAdd, Nat.reduceLeDiff, true_and, and_true, true_or, or_true, Int.zero_add, Nat.zero_le, eq_self, ne_eq, not_true_eq_false, not_false_eq_true, false_implies, true_implies, implies_true, b2i_0, b2i_1, b2i_01, up_sc, sc_at, sc_sc, ite_true, ite_false, if_true, if_false, Nat.reduceEqDiff, reduceIte]
    refine ⟨fun _ => by omega, fun _ => ?_⟩
    rw [dr _ 256 (by omega) (by omega) (by omega) (by omega)]
    simp only [s150_16, s150_17, s150_18, s150_21, sx_push, tf, List.length_cons, List.length_nil, Option.some.injEq, exists_eq_left', Nat.reduceAdd, Nat.reduceLeDiff, true_and, and_true, true_or, or_true, Int.zero_add, Nat.zero_le, eq_self, ne_eq, not_true_eq_false, not_false_eq_true, false_implies, true_implies, implies_true, b2i_0, b2i_1, b2i_01, up_sc, sc_at, sc_sc, ite_true, ite_false, if_true, if_false, Nat.reduceEqDiff, reduceIte]
    rw [dr _ 256 (by omega) (by omega) (by omega) (by omega)]
    simp only [s150_24, s150_25, s150_26, s150_29, sx_push, tf, List.length_cons, List.length_nil, Option.some.injEq, exists_eq_left', Nat.reduceAdd, Nat.reduceLeDiff, true_and, and_true, true_or, or_true, Int.zero_add, Nat.zero_le, eq_self, ne_eq, not_true_eq_false, not_false_eq_true, false_implies, true_implies, implies_true, b2i_0, b2i_1, b2i_01, up_sc, sc_at, sc_sc, ite_true, ite_false, if_true, if_false, Nat.reduceEqDiff, reduceIte]
    rw [dr _ 256 (by omega) (by omega) (by omega) (by omega)]
    generalize drawF (drawF (drawF (drawF (σ 1 11)))) = s4 at *
    generalize drawF (drawF (drawF (σ 1 11))) = s3 at *
    generalize drawF (drawF (σ 1 11)) = s2 at *
    have hx := d256 s2
    have hy := d256 s3
    have hz := d256 s4
    generalize d2 s2 256 = x at *
    generalize d2 s3 256 = y at *
    generalize d2 s4 256 = z at *
    have e3 : plc x y z = pk x y z := if_pos ⟨hx, hy, hz⟩
    have c123 := fun K => x123p (n := n) (K := K) (PTs (up1 (σ 1) 11 s4)) hO (s74 _) hx hy hz
    by_cases e2 : cbB f x y z = true
    · rw [if_pos e2] at hK
      rw [b2i_t e2] at c123
      simp only [s150_32, s150_33, s150_34, s150_35, s150_36, s150_39, s150_41, s150_42, s150_44, s150_47, s150_50, s150_51, s150_54, s150_55, s150_58, s150_61, s150_63, Int.reduceToNat, Int.reducePow, Nat.reducePow, Int.reduceLE, Int.reduceLT, Int.reduceNeg, Int.reduceEq, Int.reduceNe, Int.reduceAdd, Int.reduceSub, Int.reduceMul, and_self, sx_push, tf, List.length_cons, List.length_nil, Option.some.injEq, exists_eq_left', Nat.reduceAdd, Nat.reduceLeDiff, true_and, and_true, true_or, or_true, Int.zero_add, Nat.zero_le, eq_self, ne_eq, not_true_eq_false, not_false_eq_true, false_implies, true_implies, implies_true, b2i_0, b2i_1, b2i_01, up_sc, sc_at, sc_sc, ite_true, ite_false, if_true, if_false, Nat.reduceEqDiff, reduceIte, x33, e3, c123, x143 isP7 (PTs (up1 (σ 1) 11 s4)).1.1]
      repeat' (first | intro _ | refine And.intro ?_ ?_)
      all_goals first | omega | contradiction | skip
      refine x36N (PTs (up1 (σ 1) 11 s4)) hO (s74 _) (cbB_iff.mp e2).2 hx hy hz (fun σ' a1 a2 a3 => ?_)
      simp only [s150_66, s150_101, sx_push, tf, List.length_cons, List.length_nil, Option.some.injEq, exists_eq_left', Nat.reduceAdd, Nat.reduceLeDiff, true_and, and_true, true_or, or_true, Int.zero_add, Nat.zero_le, eq_self, ne_eq, not_true_eq_false, not_false_eq_true, false_implies, true_implies, implies_true, b2i_0, b2i_1, b2i_01, up_sc, sc_at, sc_sc, ite_true, ite_false, if_true, if_false, Nat.reduceEqDiff, reduceIte]
      refine hK σ' (fun k k1 k2 => ?_) (fun j hj => ?_) a2 a3 ?_
      · rw [a1 k k2, sc_at, if_neg k1]
      · rw [a1 1 (by omega), sc_at, if_pos rfl, up1_n hj]
      · rw [a1 1 (by omega), sc_at, if_pos rfl, up1_s]
    · rw [if_neg e2] at hK
      rw [b2i_f e2] at c123
      simp only [s150_32, s150_33, s150_34, s150_35, s150_36, s150_39, s150_41, s150_42, s150_44, s150_47, s150_66, s150_101, Int.reduceToNat, Int.reducePow, Nat.reducePow, Int.reduceLE, Int.reduceLT, Int.reduceNeg, Int.reduceEq, Int.reduceNe, Int.reduceAdd, Int.reduceSub, Int.reduceMul, and_self, sx_push, tf, List.length_cons, List.length_nil, Option.some.injEq, exists_eq_left', Nat.reduceAdd, Nat.reduceLeDiff, true_and, and_true, true_or, or_true, Int.zero_add, Nat.zero_le, eq_self, ne_eq, not_true_eq_false, not_false_eq_true, false_implies, true_implies, implies_true, b2i_0, b2i_1, b2i_01, up_sc, sc_at, sc_sc, ite_true, ite_false, if_true, if_false, Nat.reduceEqDiff, reduceIte, x33, e3, c123]
      have := hK (sc σ 1 (up1 (σ 1) 11 s4)) (fun k k1 k2 => by rw [sc_at, if_neg k1]) (fun j hj => by rw [sc_at, if_pos rfl, up1_n hj]) (PTs _) (s74 _) (by rw [sc_at, if_pos rfl, up1_s])
      repeat' (first | intro _ | refine And.intro ?_ ?_)
      all_goals first | omega | contradiction | exact this
  · rw [if_neg e, if_neg e] at hK
    have s76 : ∀ v, sc σ 1 v 7 6 = cntF f 40 0 0 := fun v => by rw [sc_at, if_neg (by omega)]; exact hP.1.2.2.2
    simp only [s150_5, s150_6, s150_69, s150_70, s150_71, s150_72, s150_75, s150_78, s150_81, sx_push, tf, List.length_cons, List.length_nil, Option.some.injEq, exists_eq_left', Nat.reduceAdd, Nat.reduceLeDiff, true_and, and_true, true_or, or_true, Int.zero_add, Nat.zero_le, eq_self, ne_eq, not_true_eq_false, not_false_eq_true, false_implies, true_implies, implies_true, b2i_0, b2i_1, b2i_01, up_sc, sc_at, sc_sc, ite_true, ite_false, if_true, if_false, Nat.reduceEqDiff, reduceIte, hP.1.2.2.2]
    refine ⟨fun _ => ?_, fun z => by omega⟩
    rw [dr _ _ (by omega) (by omega) (by omega) (by omega)]
    generalize drawF (drawF (σ 1 11)) = s2 at *
    have k0 : 0 ≤ d2 s2 (max 1 (cntF f 40 0 0)) ∧ d2 s2 (max 1 (cntF f 40 0 0)) < max 1 (cntF f 40 0 0) := ⟨Int.emod_nonneg _ (by omega), Int.emod_lt_of_pos _ (by omega)⟩
    generalize d2 s2 (max 1 (cntF f 40 0 0)) = k at *
    have ni := netK_in (f := f) (k := k) k0.1
    simp only [s150_84, s150_85, s150_86, s150_89, s150_90, s150_93, s150_94, s150_95, s150_98, sx_push, tf, List.length_cons, List.length_nil, Option.some.injEq, exists_eq_left', Nat.reduceAdd, Nat.reduceLeDiff, true_and, and_true, true_or, or_true, Int.zero_add, Nat.zero_le, eq_self, ne_eq, not_true_eq_false, not_false_eq_true, false_implies, true_implies, implies_true, b2i_0, b2i_1, b2i_01, up_sc, sc_at, sc_sc, ite_true, ite_false, if_true, if_false, Nat.reduceEqDiff, reduceIte, x66 isP7 (PTs (up1 (σ 1) 11 s2)).1.1 (show (0 : Int) ≤ 0 by omega) k0.1 (show inI k by omega)]
    change Rn 126 0 [some (vR 7), some (vI (netK f k)), none, none] [] (T0 n) _ _
    by_cases e2 : netK f k = -1
    · rw [if_pos e2] at hK
      rw [x126n isP7 (PTs (up1 (σ 1) 11 s2)).1.1 (fun z => by omega)]
      simp only [s150_101, sx_push, tf, List.length_cons, List.length_nil, Option.some.injEq, exists_eq_left', Nat.reduceAdd, Nat.reduceLeDiff, true_and, and_true, true_or, or_true, Int.zero_add, Nat.zero_le, eq_self, ne_eq, not_true_eq_false, not_false_eq_true, false_implies, true_implies, implies_true, b2i_0, b2i_1, b2i_01, up_sc, sc_at, sc_sc, ite_true, ite_false, if_true, if_false, Nat.reduceEqDiff, reduceIte]
      exact hK (sc σ 1 (up1 (σ 1) 11 s2)) (fun k k1 k2 => by rw [sc_at, if_neg k1]) (fun j hj => by rw [sc_at, if_pos rfl, up1_n hj]) (PTs _) (s74 _) (by rw [sc_at, if_pos rfl, up1_s])
    · rw [if_neg e2] at hK
      have ni := ni.resolve_left e2
      refine x126N (PTs (up1 (σ 1) 11 s2)) hO (s74 _) ni.1.1 ni.1.2 ni.2 (fun σ' a1 a2 a3 => ?_)
      simp only [s150_101, sx_push, tf, List.length_cons, List.length_nil, Option.some.injEq, exists_eq_left', Nat.reduceAdd, Nat.reduceLeDiff, true_and, and_true, true_or, or_true, Int.zero_add, Nat.zero_le, eq_self, ne_eq, not_true_eq_false, not_false_eq_true, false_implies, true_implies, implies_true, b2i_0, b2i_1, b2i_01, up_sc, sc_at, sc_sc, ite_true, ite_false, if_true, if_false, Nat.reduceEqDiff, reduceIte]
      refine hK σ' (fun k k1 k2 => ?_) (fun j hj => ?_) a2 a3 ?_
      · rw [a1 k k2, sc_at, if_neg k1]
      · rw [a1 1 (by omega), sc_at, if_pos rfl, up1_n hj]
      · rw [a1 1 (by omega), sc_at, if_pos rfl, up1_s]
theorem x276 (hO : rowOk (σ 150)) (h6 : σ 149 6 ≠ 0) (h0 : 0 ≤ σ 149 5) (h1 : σ 149 5 ≤ 2147483647) (hK : ∀ σ', (∀ k, k ≠ 149 → k ≠ 150 → k ≠ 159 → σ' k = σ k) → (∀ j, j ≠ 5 → σ' 149 j = σ 149 j) → σ' 150 = chF (σ 150) (σ 149 5) → σ' 149 5 = chD (σ 149 5) → K none (T0 n) σ') : Rn 276 0 [some (vR 149), none, none, none, none] [] (T0 n) σ K := by
  have ci := cntF_in hO.1.1 40 0 0 (by omega) (by omega)
  have i1 := drawF_in (σ 149 5)
  have i2 := drawF_in (drawF (σ 149 5))
  have i3 := drawF_in (drawF (drawF (σ 149 5)))
  have s150 : ∀ v, sc σ 149 v 150 = σ 150 := fun v => by rw [sc_at, if_neg (by omega)]
  have dr : ∀ (v m : Int), 0 ≤ v → v ≤ 2147483647 → 1 ≤ m → m ≤ 1000 → ∀ K, Rn 277 0 [some (vR 149), some (vI m)] [] (T0 n) (sc σ 149 (up1 (σ 149) 5 v)) K ↔ K (some (vI (d2 (drawF v) m))) (T0 n) (sc σ 149 (up1 (σ 149) 5 (drawF v))) := fun v m v0 v1 m0 m1 K => by
    have e : sc σ 149 (up1 (σ 149) 5 v) 149 5 = v := by simp [sc_at, up1]
    rw [x277 (by rw [e]; exact v0) (by rw [e]; omega) m0 m1, e]
    simp only [sc_at, reduceIte, sc_sc, up1_up1]
    exact Iff.rfl
  simp only [s276_0, s276_1, s276_2, sx_push, tf, List.length_cons, List.length_nil, Option.some.injEq, exists_eq_left', Nat.reduceAdd, Nat.reduceLeDiff, true_and, and_true, true_or, or_true, Int.zero_add, Nat.zero_le, eq_self, ne_eq, not_true_eq_false, not_false_eq_true, false_implies, true_implies, implies_true, b2i_0, b2i_1, b2i_01, up_sc, sc_at, sc_sc, ite_true, ite_false, if_true, if_false, Nat.reduceEqDiff, reduceIte]
  rw [x277 h0 (by omega) (by omega) (by omega)]
  change Rn 276 5 _ (sx_push (some (vI (d2 (drawF (σ 149 5)) 3))) []) _ _ _
  unfold chF chD at hK
  by_cases e : d2 (drawF (σ 149 5)) 3 < 2
  · rw [if_pos e, if_pos e] at hK
    simp only [s276_5, s276_6, s276_7, s276_8, s276_11, s276_12, s276_15, sx_push, tf, List.length_cons, List.length_nil, Option.some.injEq, exists_eq_left', Nat.reduceAdd, Nat.reduceLeDiff, true_and, and_true, true_or, or_true, Int.zero_add, Nat.zero_le, eq_self, ne_eq, not_true_eq_false, not_false_eq_true, false_implies, true_implies, implies_true, b2i_0, b2i_1, b2i_01, up_sc, sc_at, sc_sc, ite_true, ite_false, if_true, if_false, Nat.reduceEqDiff, reduceIte]
    refine ⟨fun _ => by omega, fun _ => ?_⟩
    rw [dr _ 256 (by omega) (by omega) (by omega) (by omega)]
    simp only [s276_18, s276_19, s276_20, s276_23, sx_push, tf, List.length_cons, List.length_nil, Option.some.injEq, exists_eq_left', Nat.reduceAdd, Nat.reduceLeDiff, true_and, and_true, true_or, or_true, Int.zero_add, Nat.zero_le, eq_self, ne_eq, not_true_eq_false, not_false_eq_true, false_implies, true_implies, implies_true, b2i_0, b2i_1, b2i_01, up_sc, sc_at, sc_sc, ite_true, ite_false, if_true, if_false, Nat.reduceEqDiff, reduceIte]
    rw [dr _ 256 (by omega) (by omega) (by omega) (by omega)]
    simp only [s276_26, s276_27, s276_28, s276_31, sx_push, tf, List.length_cons, List.length_nil, Option.some.injEq, exists_eq_left', Nat.reduceAdd, Nat.reduceLeDiff, true_and, and_true, true_or, or_true, Int.zero_add, Nat.zero_le, eq_self, ne_eq, not_true_eq_false, not_false_eq_true, false_implies, true_implies, implies_true, b2i_0, b2i_1, b2i_01, up_sc, sc_at, sc_sc, ite_true, ite_false, if_true, if_false, Nat.reduceEqDiff, reduceIte]
    rw [dr _ 256 (by omega) (by omega) (by omega) (by omega)]
    generalize drawF (drawF (drawF (drawF (σ 149 5)))) = s4 at *
    generalize drawF (drawF (drawF (σ 149 5))) = s3 at *
    generalize drawF (drawF (σ 149 5)) = s2 at *
    have hx := d256 s2
    have hy := d256 s3
    have hz := d256 s4
    generalize d2 s2 256 = x at *
    generalize d2 s3 256 = y at *
    generalize d2 s4 256 = z at *
    have g6 : sc σ 149 (up1 (σ 149) 5 s4) 149 6 = σ 149 6 := by simp [sc_at, up1]
    have c250 := fun K => x250 (n := n) (σ := sc σ 149 (up1 (σ 149) 5 s4)) (K := K) (x := x) (y := y) (z := z)
    rw [s150, g6] at c250
    by_cases e2 : cbB (σ 150) x y z = true
    · rw [if_pos e2] at hK
      have e2' := cbB_iff.mp e2
      rw [b2i_t ⟨h6, ⟨hx, hy, hz⟩, e2'⟩] at c250
      have c269 := fun K => x269 (n := n) (σ := sc σ 149 (up1 (σ 149) 5 s4)) (K := K) (by rw [s150]; exact hO.1.2.1) hx hy hz (by rw [s150]; exact e2'.2)
      rw [s150] at c269
      simp only [s276_34, s276_36, s276_37, s276_38, s276_39, s276_41, s276_44, s276_47, s276_48, s276_49, s276_50, s276_52, s276_55, s276_56, Int.reduceToNat, Int.reducePow, Nat.reducePow, Int.reduceLE, Int.reduceLT, Int.reduceNeg, Int.reduceEq, Int.reduceNe, Int.reduceAdd, Int.reduceSub, Int.reduceMul, and_self, sx_push, tf, List.length_cons, List.length_nil, Option.some.injEq, exists_eq_left', Nat.reduceAdd, Nat.reduceLeDiff, true_and, and_true, true_or, or_true, Int.zero_add, Nat.zero_le, eq_self, ne_eq, not_true_eq_false, not_false_eq_true, false_implies, true_implies, implies_true, b2i_0, b2i_1, b2i_01, up_sc, sc_at, sc_sc, ite_true, ite_false, if_true, if_false, Nat.reduceEqDiff, reduceIte, c250, c269]
      have := hK (sc (sc σ 149 (up1 (σ 149) 5 s4)) 150 (comeN (σ 150) x y z)) (fun k k1 k2 k3 => by rw [sc_at, if_neg k2, sc_at, if_neg k1]) (fun j hj => by simp only [sc_at, Nat.reduceEqDiff, reduceIte]; rw [up1_n hj]) (by rw [sc_at, if_pos rfl]) (by simp [sc_at, up1])
      repeat' (first | intro _ | refine And.intro ?_ ?_)
      all_goals first | omega | contradiction | exact this
    · rw [if_neg e2] at hK
      rw [b2i_f (fun z => e2 (cbB_iff.mpr z.2.2))] at c250
      simp only [s276_34, s276_36, s276_37, s276_38, s276_39, s276_41, s276_44, s276_56, Int.reduceToNat, Int.reducePow, Nat.reducePow, Int.reduceLE, Int.reduceLT, Int.reduceNeg, Int.reduceEq, Int.reduceNe, Int.reduceAdd, Int.reduceSub, Int.reduceMul, and_self, sx_push, tf, List.length_cons, List.length_nil, Option.some.injEq, exists_eq_left', Nat.reduceAdd, Nat.reduceLeDiff, true_and, and_true, true_or, or_true, Int.zero_add, Nat.zero_le, eq_self, ne_eq, not_true_eq_false, not_false_eq_true, false_implies, true_implies, implies_true, b2i_0, b2i_1, b2i_01, up_sc, sc_at, sc_sc, ite_true, ite_false, if_true, if_false, Nat.reduceEqDiff, reduceIte, c250]
      have := hK (sc σ 149 (up1 (σ 149) 5 s4)) (fun k k1 k2 k3 => by rw [sc_at, if_neg k1]) (fun j hj => by simp only [sc_at, reduceIte]; rw [up1_n hj]) (s150 _) (by simp [sc_at, up1])
      repeat' (first | intro _ | refine And.intro ?_ ?_)
      all_goals first | omega | contradiction | exact this
  · rw [if_neg e, if_neg e] at hK
    have x202' := fun v K => x202 (n := n) (σ := sc σ 149 v) (K := K) (by rw [s150]; exact hO.1.1)
    simp only [s150] at x202'
    simp only [s276_5, s276_6, s276_7, s276_8, s276_57, s276_58, s276_59, s276_60, s276_61, s276_62, s276_65, s276_68, sx_push, tf, List.length_cons, List.length_nil, Option.some.injEq, exists_eq_left', Nat.reduceAdd, Nat.reduceLeDiff, true_and, and_true, true_or, or_true, Int.zero_add, Nat.zero_le, eq_self, ne_eq, not_true_eq_false, not_false_eq_true, false_implies, true_implies, implies_true, b2i_0, b2i_1, b2i_01, up_sc, sc_at, sc_sc, ite_true, ite_false, if_true, if_false, Nat.reduceEqDiff, reduceIte, x202', x199]
    refine ⟨fun _ => ?_, fun z => by omega⟩
    rw [dr _ _ (by omega) (by omega) (by omega) (by omega)]
    generalize drawF (drawF (σ 149 5)) = s2 at *
    have k0 : 0 ≤ d2 s2 (max 1 (cntF (σ 150) 40 0 0)) ∧ d2 s2 (max 1 (cntF (σ 150) 40 0 0)) < max 1 (cntF (σ 150) 40 0 0) := ⟨Int.emod_nonneg _ (by omega), Int.emod_lt_of_pos _ (by omega)⟩
    generalize d2 s2 (max 1 (cntF (σ 150) 40 0 0)) = k at *
    have ni := netK_in (f := σ 150) (k := k) k0.1
    have c217 := fun K => x217 (n := n) (σ := sc σ 149 (up1 (σ 149) 5 s2)) (K := K) (l := 0) (kk := k)
    rw [if_pos ⟨by omega, by omega⟩, s150] at c217
    change ∀ K : Option sxV → sxT → sxS → Prop, _ ↔ K (some (vI (netK (σ 150) k))) _ _ at c217
    simp only [s276_71, s276_74, s276_75, s276_76, s276_77, s276_80, s276_81, s276_82, sx_push, tf, List.length_cons, List.length_nil, Option.some.injEq, exists_eq_left', Nat.reduceAdd, Nat.reduceLeDiff, true_and, and_true, true_or, or_true, Int.zero_add, Nat.zero_le, eq_self, ne_eq, not_true_eq_false, not_false_eq_true, false_implies, true_implies, implies_true, b2i_0, b2i_1, b2i_01, up_sc, sc_at, sc_sc, ite_true, ite_false, if_true, if_false, Nat.reduceEqDiff, reduceIte, c217]
    by_cases e2 : netK (σ 150) k = -1
    · rw [if_pos e2] at hK
      have := hK (sc σ 149 (up1 (σ 149) 5 s2)) (fun k k1 k2 k3 => by rw [sc_at, if_neg k1]) (fun j hj => by simp only [sc_at, reduceIte]; rw [up1_n hj]) (s150 _) (by simp [sc_at, up1])
      simp only [s276_85, sx_push, tf, List.length_cons, List.length_nil, Option.some.injEq, exists_eq_left', Nat.reduceAdd, Nat.reduceLeDiff, true_and, and_true, true_or, or_true, Int.zero_add, Nat.zero_le, eq_self, ne_eq, not_true_eq_false, not_false_eq_true, false_implies, true_implies, implies_true, b2i_0, b2i_1, b2i_01, up_sc, sc_at, sc_sc, ite_true, ite_false, if_true, if_false, Nat.reduceEqDiff, reduceIte]
      repeat' (first | intro _ | refine And.intro ?_ ?_)
      all_goals first | omega | contradiction | exact this
    · rw [if_neg e2] at hK
      have ni := ni.resolve_left e2
      refine ⟨fun z => absurd z e2, fun _ => ?_⟩
      refine x254 ni.1.1 ni.1.2 (by rw [s150]; exact ni.2) (by rw [s150]; exact hO.1.2.1) (by rw [s150]; exact hO.1.2.2.1) (by rw [s150]; exact hO.1.2.2.2) (fun σ' a1 a2 => ?_)
      rw [s150] at a1
      simp only [s276_85, sx_push, tf, List.length_cons, List.length_nil, Option.some.injEq, exists_eq_left', Nat.reduceAdd, Nat.reduceLeDiff, true_and, and_true, true_or, or_true, Int.zero_add, Nat.zero_le, eq_self, ne_eq, not_true_eq_false, not_false_eq_true, false_implies, true_implies, implies_true, b2i_0, b2i_1, b2i_01, up_sc, sc_at, sc_sc, ite_true, ite_false, if_true, if_false, Nat.reduceEqDiff, reduceIte]
      refine hK σ' (fun k k1 k2 k3 => ?_) (fun j hj => ?_) a1 ?_
      · rw [a2 k k2 k3, sc_at, if_neg k1]
      · rw [a2 149 (by omega) (by omega), sc_at, if_pos rfl, up1_n hj]
      · rw [a2 149 (by omega) (by omega), sc_at, if_pos rfl, up1_s]
end CH
