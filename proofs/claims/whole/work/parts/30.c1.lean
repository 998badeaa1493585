/-! bits of packed places: of the class -/
theorem and_sp {a b c d : Nat} (hc : c < 256) (hd : d < 256) : (256 * a + c) &&& (256 * b + d) = 256 * (a &&& b) + (c &&& d) := by
  have h1 := fun i => Nat.testBit_two_pow_mul_add a (b := c) (i := 8) hc i
  have h2 := fun i => Nat.testBit_two_pow_mul_add b (b := d) (i := 8) hd i
  have h3 := fun i => Nat.testBit_two_pow_mul_add (a &&& b) (b := c &&& d) (i := 8) (Nat.and_lt_two_pow _ hd) i
  apply Nat.eq_of_testBit_eq
  intro i
  have h1 := h1 i
  have h2 := h2 i
  have h3 := h3 i
  rw [show (2 : Nat) ^ 8 = 256 from rfl] at h1 h2 h3
  rw [Nat.testBit_and, h1, h2, h3]
  split <;> simp only [Nat.testBit_and]
theorem xor_sp {a b c d : Nat} (hc : c < 256) (hd : d < 256) : (256 * a + c) ^^^ (256 * b + d) = 256 * (a ^^^ b) + (c ^^^ d) := by
  have h1 := fun i => Nat.testBit_two_pow_mul_add a (b := c) (i := 8) hc i
  have h2 := fun i => Nat.testBit_two_pow_mul_add b (b := d) (i := 8) hd i
  have h3 := fun i => Nat.testBit_two_pow_mul_add (a ^^^ b) (b := c ^^^ d) (i := 8) (Nat.xor_lt_two_pow hc hd) i
  apply Nat.eq_of_testBit_eq
  intro i
  have h1 := h1 i
  have h2 := h2 i
  have h3 := h3 i
  rw [show (2 : Nat) ^ 8 = 256 from rfl] at h1 h2 h3
  rw [Nat.testBit_xor, h1, h2, h3]
  split <;> simp only [Nat.testBit_xor]
theorem and3 {a b c x y z : Nat} (hb : b < 256) (hc : c < 256) (hy : y < 256) (hz : z < 256) : (65536 * a + 256 * b + c) &&& (65536 * x + 256 * y + z) = 65536 * (a &&& x) + 256 * (b &&& y) + (c &&& z) := by
  have h := and_sp (a := 256 * a + b) (b := 256 * x + y) hc hz
  rw [and_sp hb hy] at h
  rw [show 65536 * a + 256 * b + c = 256 * (256 * a + b) + c by omega, show 65536 * x + 256 * y + z = 256 * (256 * x + y) + z by omega, h]
  omega
theorem xor3 {a b c x y z : Nat} (hb : b < 256) (hc : c < 256) (hy : y < 256) (hz : z < 256) : (65536 * a + 256 * b + c) ^^^ (65536 * x + 256 * y + z) = 65536 * (a ^^^ x) + 256 * (b ^^^ y) + (c ^^^ z) := by
  have h := xor_sp (a := 256 * a + b) (b := 256 * x + y) hc hz
  rw [xor_sp hb hy] at h
  rw [show 65536 * a + 256 * b + c = 256 * (256 * a + b) + c by omega, show 65536 * x + 256 * y + z = 256 * (256 * x + y) + z by omega, h]
  omega
def bg1 (v : Nat) : Nat := v - ((v / 2) &&& 85)
def bg2 (v : Nat) : Nat := (v &&& 51) + ((v / 4) &&& 51)
def bg3 (v : Nat) : Nat := (v + v / 16) % 16
theorem bt1 : ∀ v : Fin 256, ((v : Nat) / 2 &&& 21845) = ((v : Nat) / 2 &&& 85) ∧ (128 + (v : Nat) / 2) &&& 85 = ((v : Nat) / 2 &&& 85) ∧ ((v : Nat) / 2 &&& 85) ≤ (v : Nat) := by decide +kernel
theorem bt2 : ∀ v : Fin 256, ((v : Nat) / 4 &&& 13107) = ((v : Nat) / 4 &&& 51) ∧ ((v : Nat) &&& 13107) = ((v : Nat) &&& 51) ∧ (64 + (v : Nat) / 4) &&& 51 = ((v : Nat) / 4 &&& 51) ∧ (128 + (v : Nat) / 4) &&& 51 = ((v : Nat) / 4 &&& 51) ∧ (192 + (v : Nat) / 4) &&& 51 = ((v : Nat) / 4 &&& 51) := by decide +kernel
theorem bt3 : ∀ v : Fin 256, bg2 (bg1 (v : Nat)) % 16 ≤ 4 ∧ bg2 (bg1 (v : Nat)) / 16 ≤ 4 ∧ ((v : Nat) &&& 3855) = (v : Nat) % 16 ∧ ((v : Nat) &&& 15) = (v : Nat) % 16 := by decide +kernel
theorem bt4 : ∀ v : Fin 256, ((bg3 (bg2 (bg1 (v : Nat))) : Nat) : Int) = bitsF ((v : Nat) : Int) ∧ bg3 (bg2 (bg1 (v : Nat))) ≤ 8 := by decide +kernel
theorem bg1_lt {v : Nat} (h : v < 256) : bg1 v < 256 := by unfold bg1; omega
theorem bcs1 {a b c : Nat} (ha : a < 256) (hb : b < 256) (hc : c < 256) : (65536 * a + 256 * b + c) - (((65536 * a + 256 * b + c) / 2) &&& 1431655765) = 65536 * bg1 a + 256 * bg1 b + bg1 c := by
  obtain ⟨a1, a2, a3⟩ := bt1 ⟨a, ha⟩
  obtain ⟨b1, b2, b3⟩ := bt1 ⟨b, hb⟩
  obtain ⟨c1, c2, c3⟩ := bt1 ⟨c, hc⟩
  simp only at a1 a2 a3 b1 b2 b3 c1 c2 c3
  have h := and3 (a := a / 2) (b := 128 * (a % 2) + b / 2) (c := 128 * (b % 2) + c / 2) (x := 21845) (y := 85) (z := 85) (by omega) (by omega) (by omega) (by omega)
  rw [show 65536 * (a / 2) + 256 * (128 * (a % 2) + b / 2) + (128 * (b % 2) + c / 2) = (65536 * a + 256 * b + c) / 2 by omega, show 65536 * 21845 + 256 * 85 + 85 = 1431655765 from rfl, a1] at h
  have hb' : (128 * (a % 2) + b / 2) &&& 85 = b / 2 &&& 85 := by
    rcases Nat.mod_two_eq_zero_or_one a with e | e
    · rw [e]; simp only [Nat.mul_zero, Nat.zero_add]
    · rw [e]; exact b2
  have hc' : (128 * (b % 2) + c / 2) &&& 85 = c / 2 &&& 85 := by
    rcases Nat.mod_two_eq_zero_or_one b with e | e
    · rw [e]; simp only [Nat.mul_zero, Nat.zero_add]
    · rw [e]; exact c2
  rw [h, hb', hc']
  unfold bg1
  omega
theorem bcs2 {a b c : Nat} (ha : a < 256) (hb : b < 256) (hc : c < 256) : ((65536 * a + 256 * b + c) &&& 858993459) + (((65536 * a + 256 * b + c) / 4) &&& 858993459) = 65536 * bg2 a + 256 * bg2 b + bg2 c := by
  obtain ⟨a1, a2, a3, a4, a5⟩ := bt2 ⟨a, ha⟩
  obtain ⟨b1, b2, b3, b4, b5⟩ := bt2 ⟨b, hb⟩
  obtain ⟨c1, c2, c3, c4, c5⟩ := bt2 ⟨c, hc⟩
  simp only at a1 a2 a3 a4 a5 b1 b2 b3 b4 b5 c1 c2 c3 c4 c5
  have h := and3 (a := a / 4) (b := 64 * (a % 4) + b / 4) (c := 64 * (b % 4) + c / 4) (x := 13107) (y := 51) (z := 51) (by omega) (by omega) (by omega) (by omega)
  have h0 := and3 (a := a) (b := b) (c := c) (x := 13107) (y := 51) (z := 51) (by omega) (by omega) (by omega) (by omega)
  rw [show 65536 * (a / 4) + 256 * (64 * (a % 4) + b / 4) + (64 * (b % 4) + c / 4) = (65536 * a + 256 * b + c) / 4 by omega, show 65536 * 13107 + 256 * 51 + 51 = 858993459 from rfl, a1] at h
  rw [show 65536 * 13107 + 256 * 51 + 51 = 858993459 from rfl, a2] at h0
  have hb' : (64 * (a % 4) + b / 4) &&& 51 = b / 4 &&& 51 := by
    rcases (show a % 4 = 0 ∨ a % 4 = 1 ∨ a % 4 = 2 ∨ a % 4 = 3 by omega) with e | e | e | e
    · rw [e]; simp only [Nat.mul_zero, Nat.zero_add]
    · rw [e]; exact b3
    · rw [e]; exact b4
    · rw [e]; exact b5
  have hc' : (64 * (b % 4) + c / 4) &&& 51 = c / 4 &&& 51 := by
    rcases (show b % 4 = 0 ∨ b % 4 = 1 ∨ b % 4 = 2 ∨ b % 4 = 3 by omega) with e | e | e | e
    · rw [e]; simp only [Nat.mul_zero, Nat.zero_add]
    · rw [e]; exact c3
    · rw [e]; exact c4
    · rw [e]; exact c5
  rw [h, hb', hc', h0]
  unfold bg2
  omega
theorem bcs3 {a b c : Nat} (ha : a % 16 ≤ 4 ∧ a / 16 ≤ 4) (hb : b % 16 ≤ 4 ∧ b / 16 ≤ 4) (hc : c % 16 ≤ 4 ∧ c / 16 ≤ 4) : ((65536 * a + 256 * b + c) + (65536 * a + 256 * b + c) / 16) &&& 252645135 = 65536 * bg3 a + 256 * bg3 b + bg3 c := by
  have h := and3 (a := a + a / 16) (b := b + 16 * (a % 16) + b / 16) (c := c + 16 * (b % 16) + c / 16) (x := 3855) (y := 15) (z := 15) (by omega) (by omega) (by omega) (by omega)
  rw [show 65536 * (a + a / 16) + 256 * (b + 16 * (a % 16) + b / 16) + (c + 16 * (b % 16) + c / 16) = (65536 * a + 256 * b + c) + (65536 * a + 256 * b + c) / 16 by omega, show 65536 * 3855 + 256 * 15 + 15 = 252645135 from rfl] at h
  have h1 := (bt3 ⟨a + a / 16, by omega⟩).2.2.1
  have h2 := (bt3 ⟨b + 16 * (a % 16) + b / 16, by omega⟩).2.2.2
  have h3 := (bt3 ⟨c + 16 * (b % 16) + c / 16, by omega⟩).2.2.2
  simp only at h1 h2 h3
  rw [h, h1, h2, h3]
  unfold bg3
  omega
section C1
variable {n : Nat} {σ : sxS} {K : Option sxV → sxT → sxS → Prop}
theorem x41 {a b c : Nat} (ha : a < 256) (hb : b < 256) (hc : c < 256) : Rn 41 0 [some (vI ((65536 * a + 256 * b + c : Nat) : Int))] [] (T0 n) σ K ↔ K (some (vI (bitsF (a : Int) + bitsF (b : Int) + bitsF (c : Int)))) (T0 n) σ := by
  refine Rn_iff fun K hK => ?_
  have a4 := bt4 ⟨a, ha⟩
  have b4 := bt4 ⟨b, hb⟩
  have c4 := bt4 ⟨c, hc⟩
  have a3 := bt3 ⟨a, ha⟩
  have b3 := bt3 ⟨b, hb⟩
  have c3 := bt3 ⟨c, hc⟩
  simp only at a4 b4 c4 a3 b3 c3
  have s1 := bcs1 ha hb hc
  have s2 := bcs2 (bg1_lt ha) (bg1_lt hb) (bg1_lt hc)
  have s3 := bcs3 ⟨a3.1, a3.2.1⟩ ⟨b3.1, b3.2.1⟩ ⟨c3.1, c3.2.1⟩
  have l1 := bg1_lt ha
  have l2 := bg1_lt hb
  have l3 := bg1_lt hc
  generalize hN0 : 65536 * a + 256 * b + c = N0 at *
  generalize hN1 : 65536 * bg1 a + 256 * bg1 b + bg1 c = N1 at *
  generalize hN2 : 65536 * bg2 (bg1 a) + 256 * bg2 (bg1 b) + bg2 (bg1 c) = N2 at *
  generalize hN3 : 65536 * bg3 (bg2 (bg1 a)) + 256 * bg3 (bg2 (bg1 b)) + bg3 (bg2 (bg1 c)) = N3 at *
  have k0 : N0 < 16777216 := by omega
  have k1 : N1 < 16777216 := by omega
  have k2 : N2 < 16777216 := by omega
  have k3 : N3 < 1048576 := by omega
  have m1 : (N0 / 2 &&& 1431655765) ≤ N0 / 2 := Nat.and_le_left
  have m2 : (N1 / 4 &&& 858993459) ≤ N1 / 4 := Nat.and_le_left
  have m3 : (N1 &&& 858993459) ≤ N1 := Nat.and_le_left
  have e1 : sx_and ((N0 : Int) / 2) 1431655765 = ((N0 / 2 &&& 1431655765 : Nat) : Int) := sx_andN (a := N0 / 2) (b := 1431655765) (by omega) (by omega)
  have e1' : (N0 : Int) - ((N0 / 2 &&& 1431655765 : Nat) : Int) = (N1 : Int) := by omega
  have e2 : sx_and (N1 : Int) 858993459 = ((N1 &&& 858993459 : Nat) : Int) := sx_andN (a := N1) (b := 858993459) (by omega) (by omega)
  have e3 : sx_and ((N1 : Int) / 4) 858993459 = ((N1 / 4 &&& 858993459 : Nat) : Int) := sx_andN (a := N1 / 4) (b := 858993459) (by omega) (by omega)
  have e3' : ((N1 &&& 858993459 : Nat) : Int) + ((N1 / 4 &&& 858993459 : Nat) : Int) = (N2 : Int) := by omega
  have e4 : sx_and ((N2 : Int) + (N2 : Int) / 16) 252645135 = ((N3 : Nat) : Int) := by
    rw [show (N2 : Int) + (N2 : Int) / 16 = ((N2 + N2 / 16 : Nat) : Int) by omega]
    rw [show (252645135 : Int) = ((252645135 : Nat) : Int) from rfl, sx_andN (by omega) (by omega), s3]
  have e5 : sx_and ((N3 : Int) + (N3 : Int) / 256 + ((N3 : Int) + (N3 : Int) / 256) / 65536) 63 = bitsF (a : Int) + bitsF (b : Int) + bitsF (c : Int) := by
    rw [show (N3 : Int) + (N3 : Int) / 256 + ((N3 : Int) + (N3 : Int) / 256) / 65536 = ((N3 + N3 / 256 + (N3 + N3 / 256) / 65536 : Nat) : Int) by omega]
    rw [show (63 : Int) = ((63 : Nat) : Int) from rfl, sx_andN (by omega) (by omega), show (63 : Nat) = 2 ^ 6 - 1 from rfl, Nat.and_two_pow_sub_one_eq_mod]
    rw [← a4.1, ← b4.1, ← c4.1]
    have q1 : N3 / 256 = 256 * bg3 (bg2 (bg1 a)) + bg3 (bg2 (bg1 b)) := by omega
    have q2 : (N3 + N3 / 256) / 65536 = bg3 (bg2 (bg1 a)) := by omega
    rw [q2, q1, ← hN3]
    omega
  simp only [s41_0, s41_1, s41_2, s41_3, s41_4, s41_7, s41_8, s41_9, s41_10, s41_11, s41_14, s41_15, s41_16, s41_17, s41_18, s41_21, s41_22, s41_23, s41_24, s41_25, s41_26, s41_27, s41_28, s41_29, s41_32, s41_33, s41_34, s41_35, s41_36, s41_38, s41_39, s41_40, s41_41, s41_42, s41_43, s41_45, s41_46, s41_47, s41_48, s41_49, s41_51, s41_52, Int.reduceToNat, Int.reducePow, Nat.reducePow, Int.reduceLE, Int.reduceLT, Int.reduceNeg, Int.reduceEq, Int.reduceNe, Int.reduceAdd, Int.reduceSub, Int.reduceMul, and_self, sx_push, tf, List.length_cons, List.length_nil, Option.some.injEq, exists_eq_left', Nat.reduceAdd, Nat.reduceLeDiff, true_and, and_true, true_or, or_true, Int.zero_add, Nat.zero_le, eq_self, ne_eq, not_true_eq_false, not_false_eq_true, false_implies, true_implies, implies_true, b2i_0, b2i_1, b2i_01, up_sc, sc_at, sc_sc, ite_true, ite_false, if_true, if_false, Nat.reduceEqDiff, reduceIte, e1, e1', e2, e3, e3', e4, e5]
  repeat' (first | intro _ | refine And.intro ?_ ?_)
  all_goals first | exact hK | omega
theorem sx_and255 {a : Int} (h0 : 0 ≤ a) (h1 : a < 2147483648) : sx_and a 255 = a % 256 := by
  obtain ⟨x, rfl⟩ := Int.eq_ofNat_of_zero_le h0
  rw [show (255 : Int) = ((255 : Nat) : Int) from rfl, sx_andN (by omega) (by omega), show (255 : Nat) = 2 ^ 8 - 1 from rfl, Nat.and_two_pow_sub_one_eq_mod]
  omega
/-- a place as one number -/
def pk (x y z : Int) : Int := 65536 * x + 256 * y + z
theorem pk_x {x y z : Int} (hx : in8 x) (hy : in8 y) (hz : in8 z) : sx_and (pk x y z / 65536) 255 = x := by
  unfold in8 at *; unfold pk; rw [sx_and255 (by omega) (by omega)]; omega
theorem pk_y {x y z : Int} (hx : in8 x) (hy : in8 y) (hz : in8 z) : sx_and (pk x y z / 256) 255 = y := by
  unfold in8 at *; unfold pk; rw [sx_and255 (by omega) (by omega)]; omega
theorem pk_z {x y z : Int} (hx : in8 x) (hy : in8 y) (hz : in8 z) : sx_and (pk x y z) 255 = z := by
  unfold in8 at *; unfold pk; rw [sx_and255 (by omega) (by omega)]; omega
theorem pk_rng {x y z : Int} (hx : in8 x) (hy : in8 y) (hz : in8 z) : 0 ≤ pk x y z ∧ pk x y z ≤ 16777215 := by
  unfold in8 at *; unfold pk; omega
theorem pk_inj {x y z a b c : Int} (hx : in8 x) (hy : in8 y) (hz : in8 z) (ha : in8 a) (hb : in8 b) (hc : in8 c) : pk x y z = pk a b c ↔ x = a ∧ y = b ∧ z = c := by
  unfold in8 at *; unfold pk; omega
theorem pk_xor {x y z a b c : Int} (hx : in8 x) (hy : in8 y) (hz : in8 z) (ha : in8 a) (hb : in8 b) (hc : in8 c) : sx_xor (pk x y z) (pk a b c) = pk (sx_xor x a) (sx_xor y b) (sx_xor z c) := by
  unfold in8 at *
  obtain ⟨x, rfl⟩ := Int.eq_ofNat_of_zero_le hx.1
  obtain ⟨y, rfl⟩ := Int.eq_ofNat_of_zero_le hy.1
  obtain ⟨z, rfl⟩ := Int.eq_ofNat_of_zero_le hz.1
  obtain ⟨a, rfl⟩ := Int.eq_ofNat_of_zero_le ha.1
  obtain ⟨b, rfl⟩ := Int.eq_ofNat_of_zero_le hb.1
  obtain ⟨c, rfl⟩ := Int.eq_ofNat_of_zero_le hc.1
  unfold pk
  rw [show (65536 * (x : Int) + 256 * (y : Int) + (z : Int)) = ((65536 * x + 256 * y + z : Nat) : Int) by omega, show (65536 * (a : Int) + 256 * (b : Int) + (c : Int)) = ((65536 * a + 256 * b + c : Nat) : Int) by omega]
  rw [sx_xorN (by omega) (by omega), xor3 (by omega) (by omega) (by omega) (by omega), sx_xorN (by omega) (by omega), sx_xorN (by omega) (by omega), sx_xorN (by omega) (by omega)]
  omega
theorem x40 {m x y z a b c : Int} (hx : in8 x) (hy : in8 y) (hz : in8 z) (ha : in8 a) (hb : in8 b) (hc : in8 c) : Rn 40 0 [some (vI m), some (vI (pk x y z)), some (vI (pk a b c)), none, none, none] [] (T0 n) σ K ↔ K (some (vI (farF m x y z a b c))) (T0 n) σ := by
  refine Rn_iff fun K hK => ?_
  have q1 := sx_xor8 hx.1 hx.2 ha.1 ha.2
  have q2 := sx_xor8 hy.1 hy.2 hb.1 hb.2
  have q3 := sx_xor8 hz.1 hz.2 hc.1 hc.2
  have hb41 := fun K' => x41 (n := n) (σ := σ) (K := K') (a := (sx_xor x a).toNat) (b := (sx_xor y b).toNat) (c := (sx_xor z c).toNat) (by omega) (by omega) (by omega)
  rw [show ((65536 * (sx_xor x a).toNat + 256 * (sx_xor y b).toNat + (sx_xor z c).toNat : Nat) : Int) = pk (sx_xor x a) (sx_xor y b) (sx_xor z c) by unfold pk; omega, show (((sx_xor x a).toNat : Nat) : Int) = sx_xor x a by omega, show (((sx_xor y b).toNat : Nat) : Int) = sx_xor y b by omega, show (((sx_xor z c).toNat : Nat) : Int) = sx_xor z c by omega] at hb41
  have p1 := pk_rng hx hy hz
  have p2 := pk_rng ha hb hc
  simp only [s40_0, s40_1, s40_2, s40_5, s40_6, s40_7, s40_8, s40_11, s40_12, s40_13, s40_15, s40_16, s40_19, s40_20, s40_21, s40_23, s40_24, s40_27, s40_28, s40_29, s40_32, s40_33, s40_34, s40_36, s40_37, s40_40, s40_41, s40_42, s40_44, s40_45, s40_48, s40_49, s40_50, s40_53, s40_55, s40_56, s40_59, s40_60, s40_61, s40_64, s40_65, s40_66, s40_69, s40_71, s40_72, s40_75, s40_76, s40_78, s40_79, s40_81, s40_82, s40_85, s40_86, s40_88, s40_90, s40_93, s40_96, Int.reduceToNat, Int.reducePow, Nat.reducePow, Int.reduceLE, Int.reduceLT, Int.reduceNeg, Int.reduceEq, Int.reduceNe, Int.reduceAdd, Int.reduceSub, Int.reduceMul, and_self, sx_push, tf, List.length_cons, List.length_nil, Option.some.injEq, exists_eq_left', Nat.reduceAdd, Nat.reduceLeDiff, true_and, and_true, true_or, or_true, Int.zero_add, Nat.zero_le, eq_self, ne_eq, not_true_eq_false, not_false_eq_true, false_implies, true_implies, implies_true, b2i_0, b2i_1, b2i_01, up_sc, sc_at, sc_sc, ite_true, ite_false, if_true, if_false, Nat.reduceEqDiff, reduceIte, pk_xor hx hy hz ha hb hc, hb41, pk_x hx hy hz, pk_y hx hy hz, pk_z hx hy hz, pk_x ha hb hc, pk_y ha hb hc, pk_z ha hb hc]
  have ab : ∀ v : Int, (if 0 ≤ v then v else -v) = absF v := fun v => by unfold absF; (repeat' split) <;> omega
  simp only [ab]
  have ai : ∀ v : Int, -255 ≤ v → v ≤ 255 → 0 ≤ absF v ∧ absF v ≤ 255 := fun v _ _ => by unfold absF; split <;> omega
  unfold in8 at *
  have i1 := ai (x - a) (by omega) (by omega)
  have i2 := ai (y - b) (by omega) (by omega)
  have i3 := ai (z - c) (by omega) (by omega)
  unfold farF at hK
  repeat' (first | intro _ | refine And.intro ?_ ?_)
  all_goals first | omega | (rw [if_pos (by assumption)] at hK; exact hK) | (rw [if_neg (by assumption), if_pos (by assumption)] at hK; exact hK) | (rw [if_neg (by assumption), if_neg (by assumption)] at hK; exact hK)
theorem x34 {a : Int} : Rn 34 0 [some (vI a)] [] (T0 n) σ K ↔ K (some (vI (b2i (0 ≤ a ∧ a ≤ 255)))) (T0 n) σ := by
  refine Rn_iff fun K hK => ?_
  simp only [s34_0, s34_1, s34_4, s34_5, s34_8, s34_11, s34_12, s34_15, s34_16, sx_push, tf, List.length_cons, List.length_nil, Option.some.injEq, exists_eq_left', Nat.reduceAdd, Nat.reduceLeDiff, true_and, and_true, true_or, or_true, Int.zero_add, Nat.zero_le, eq_self, ne_eq, not_true_eq_false, not_false_eq_true, false_implies, true_implies, implies_true, b2i_0, b2i_1, b2i_01, up_sc, sc_at, sc_sc, ite_true, ite_false, if_true, if_false, Nat.reduceEqDiff, reduceIte]
  repeat' (first | intro _ | refine And.intro ?_ ?_)
  all_goals (first | exact hK | omega | (rw [b2i_t] at hK <;> first | exact hK | omega) | (rw [b2i_f] at hK <;> first | exact hK | omega) | (split at hK <;> first | exact hK | omega))
theorem x22 {a : Int} : Rn 22 0 [some (vI a)] [] (T0 n) σ K ↔ K (some (vI (b2i (97 ≤ a ∧ a ≤ 122)))) (T0 n) σ := by
  refine Rn_iff fun K hK => ?_
  simp only [s22_0, s22_1, s22_3, s22_6, s22_7, s22_9, s22_12, s22_13, s22_16, s22_17, sx_push, tf, List.length_cons, List.length_nil, Option.some.injEq, exists_eq_left', Nat.reduceAdd, Nat.reduceLeDiff, true_and, and_true, true_or, or_true, Int.zero_add, Nat.zero_le, eq_self, ne_eq, not_true_eq_false, not_false_eq_true, false_implies, true_implies, implies_true, b2i_0, b2i_1, b2i_01, up_sc, sc_at, sc_sc, ite_true, ite_false, if_true, if_false, Nat.reduceEqDiff, reduceIte]
  repeat' (first | intro _ | refine And.intro ?_ ?_)
  all_goals (first | exact hK | omega | (rw [b2i_t] at hK <;> first | exact hK | omega) | (rw [b2i_f] at hK <;> first | exact hK | omega) | (split at hK <;> first | exact hK | omega))
theorem x32 {a : Int} : Rn 32 0 [some (vI a)] [] (T0 n) σ K ↔ K (some (vI (b2i (48 ≤ a ∧ a ≤ 57)))) (T0 n) σ := by
  refine Rn_iff fun K hK => ?_
  simp only [s32_0, s32_1, s32_3, s32_6, s32_7, s32_9, s32_12, s32_13, s32_16, s32_17, sx_push, tf, List.length_cons, List.length_nil, Option.some.injEq, exists_eq_left', Nat.reduceAdd, Nat.reduceLeDiff, true_and, and_true, true_or, or_true, Int.zero_add, Nat.zero_le, eq_self, ne_eq, not_true_eq_false, not_false_eq_true, false_implies, true_implies, implies_true, b2i_0, b2i_1, b2i_01, up_sc, sc_at, sc_sc, ite_true, ite_false, if_true, if_false, Nat.reduceEqDiff, reduceIte]
  repeat' (first | intro _ | refine And.intro ?_ ?_)
  all_goals (first | exact hK | omega | (rw [b2i_t] at hK <;> first | exact hK | omega) | (rw [b2i_f] at hK <;> first | exact hK | omega) | (split at hK <;> first | exact hK | omega))
theorem x64 {a : Int} : Rn 64 0 [some (vI a)] [] (T0 n) σ K ↔ K (some (vI (b2i (0 ≤ a ∧ a ≤ 10)))) (T0 n) σ := by
  refine Rn_iff fun K hK => ?_
  simp only [s64_0, s64_1, s64_4, s64_5, s64_7, s64_10, s64_11, s64_14, s64_15, sx_push, tf, List.length_cons, List.length_nil, Option.some.injEq, exists_eq_left', Nat.reduceAdd, Nat.reduceLeDiff, true_and, and_true, true_or, or_true, Int.zero_add, Nat.zero_le, eq_self, ne_eq, not_true_eq_false, not_false_eq_true, false_implies, true_implies, implies_true, b2i_0, b2i_1, b2i_01, up_sc, sc_at, sc_sc, ite_true, ite_false, if_true, if_false, Nat.reduceEqDiff, reduceIte]
  repeat' (first | intro _ | refine And.intro ?_ ?_)
  all_goals (first | exact hK | omega | (rw [b2i_t] at hK <;> first | exact hK | omega) | (rw [b2i_f] at hK <;> first | exact hK | omega) | (split at hK <;> first | exact hK | omega))
theorem x88 {a : Int} : Rn 88 0 [some (vI a)] [] (T0 n) σ K ↔ K (some (vI (b2i (0 ≤ a ∧ a ≤ 999)))) (T0 n) σ := by
  refine Rn_iff fun K hK => ?_
  simp only [s88_0, s88_1, s88_4, s88_5, s88_8, s88_11, s88_12, s88_15, s88_16, sx_push, tf, List.length_cons, List.length_nil, Option.some.injEq, exists_eq_left', Nat.reduceAdd, Nat.reduceLeDiff, true_and, and_true, true_or, or_true, Int.zero_add, Nat.zero_le, eq_self, ne_eq, not_true_eq_false, not_false_eq_true, false_implies, true_implies, implies_true, b2i_0, b2i_1, b2i_01, up_sc, sc_at, sc_sc, ite_true, ite_false, if_true, if_false, Nat.reduceEqDiff, reduceIte]
  repeat' (first | intro _ | refine And.intro ?_ ?_)
  all_goals (first | exact hK | omega | (rw [b2i_t] at hK <;> first | exact hK | omega) | (rw [b2i_f] at hK <;> first | exact hK | omega) | (split at hK <;> first | exact hK | omega))
theorem x147 {a : Int} : Rn 147 0 [some (vI a)] [] (T0 n) σ K ↔ K (some (vI (b2i (0 ≤ a ∧ a < 3)))) (T0 n) σ := by
  refine Rn_iff fun K hK => ?_
  simp only [s147_0, s147_1, s147_4, s147_5, s147_6, s147_9, s147_10, s147_13, s147_14, sx_push, tf, List.length_cons, List.length_nil, Option.some.injEq, exists_eq_left', Nat.reduceAdd, Nat.reduceLeDiff, true_and, and_true, true_or, or_true, Int.zero_add, Nat.zero_le, eq_self, ne_eq, not_true_eq_false, not_false_eq_true, false_implies, true_implies, implies_true, b2i_0, b2i_1, b2i_01, up_sc, sc_at, sc_sc, ite_true, ite_false, if_true, if_false, Nat.reduceEqDiff, reduceIte]
  repeat' (first | intro _ | refine And.intro ?_ ?_)
  all_goals (first | exact hK | omega | (rw [b2i_t] at hK <;> first | exact hK | omega) | (rw [b2i_f] at hK <;> first | exact hK | omega) | (split at hK <;> first | exact hK | omega))
theorem pk_or {x y z : Int} (hx : in8 x) (hy : in8 y) (hz : in8 z) : sx_or (sx_or (x * 65536) (y * 256)) z = pk x y z := by
  unfold in8 at *
  obtain ⟨x, rfl⟩ := Int.eq_ofNat_of_zero_le hx.1
  obtain ⟨y, rfl⟩ := Int.eq_ofNat_of_zero_le hy.1
  obtain ⟨z, rfl⟩ := Int.eq_ofNat_of_zero_le hz.1
  unfold pk
  rw [show (x : Int) * 65536 = ((2 ^ 16 * x : Nat) : Int) by omega, show (y : Int) * 256 = ((2 ^ 8 * y : Nat) : Int) by omega]
  rw [sx_orN (by omega) (by omega), ← Nat.two_pow_add_eq_or_of_lt (by omega), show 2 ^ 16 * x + 2 ^ 8 * y = 2 ^ 8 * (256 * x + y) by omega, sx_orN (by omega) (by omega), ← Nat.two_pow_add_eq_or_of_lt (by omega)]
  omega
/-- a place's number, -1 where there is none such -/
def plc (x y z : Int) : Int := if (0 ≤ x ∧ x ≤ 255) ∧ (0 ≤ y ∧ y ≤ 255) ∧ 0 ≤ z ∧ z ≤ 255 then pk x y z else -1
theorem x33 {x y z : Int} : Rn 33 0 [some (vI x), some (vI y), some (vI z)] [] (T0 n) σ K ↔ K (some (vI (plc x y z))) (T0 n) σ := by
  refine Rn_iff fun K hK => ?_
  unfold plc at hK
  by_cases h : (0 ≤ x ∧ x ≤ 255) ∧ (0 ≤ y ∧ y ≤ 255) ∧ 0 ≤ z ∧ z ≤ 255
  · rw [if_pos h] at hK
    simp only [s33_0, s33_1, s33_4, s33_7, s33_8, s33_11, s33_14, s33_15, s33_18, s33_21, s33_22, s33_24, s33_25, s33_26, s33_28, s33_29, s33_30, s33_31, s33_32, s33_35, s33_36, Int.reduceToNat, Int.reducePow, Nat.reducePow, Int.reduceLE, Int.reduceLT, Int.reduceNeg, Int.reduceEq, Int.reduceNe, Int.reduceAdd, Int.reduceSub, Int.reduceMul, and_self, sx_push, tf, List.length_cons, List.length_nil, Option.some.injEq, exists_eq_left', Nat.reduceAdd, Nat.reduceLeDiff, true_and, and_true, true_or, or_true, Int.zero_add, Nat.zero_le, eq_self, ne_eq, not_true_eq_false, not_false_eq_true, false_implies, true_implies, implies_true, b2i_0, b2i_1, b2i_01, up_sc, sc_at, sc_sc, ite_true, ite_false, if_true, if_false, Nat.reduceEqDiff, reduceIte, x34, pk_or h.1 h.2.1 h.2.2]
    repeat' (first | intro _ | refine And.intro ?_ ?_)
    all_goals first | exact hK | omega
  · rw [if_neg h] at hK
    simp only [s33_0, s33_1, s33_4, s33_7, s33_8, s33_11, s33_14, s33_15, s33_18, s33_21, s33_22, s33_24, s33_25, s33_26, s33_28, s33_29, s33_30, s33_31, s33_32, s33_35, s33_36, sx_push, tf, List.length_cons, List.length_nil, Option.some.injEq, exists_eq_left', Nat.reduceAdd, Nat.reduceLeDiff, true_and, and_true, true_or, or_true, Int.zero_add, Nat.zero_le, eq_self, ne_eq, not_true_eq_false, not_false_eq_true, false_implies, true_implies, implies_true, b2i_0, b2i_1, b2i_01, up_sc, sc_at, sc_sc, ite_true, ite_false, if_true, if_false, Nat.reduceEqDiff, reduceIte, x34]
    repeat' (first | intro _ | refine And.intro ?_ ?_)
    all_goals first | exact hK | omega
end C1
