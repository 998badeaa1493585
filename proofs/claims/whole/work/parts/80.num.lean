/-! whole numbers and the machine's -/
theorem sn_t {a : Int} (h : inI a) : (Int32.ofInt a).toInt = a := by
  apply Int32.toInt_ofInt_of_le <;> omega
theorem sn_tj {a : Int} (h : inJ a) : (Int64.ofInt a).toInt = a := by
  apply Int64.toInt_ofInt_of_le <;> omega
theorem sn_inI (x : Int32) : inI x.toInt := ⟨Int32.le_toInt x, by have := Int32.toInt_lt x; omega⟩
theorem sn_inJ (x : Int64) : inJ x.toInt := ⟨Int64.le_toInt x, by have := Int64.toInt_lt x; omega⟩
theorem sn_lt {a b : Int} (ha : inI a) (hb : inI b) : Int32.ofInt a < Int32.ofInt b ↔ a < b := by rw [Int32.lt_iff_toInt_lt, sn_t ha, sn_t hb]
theorem sn_le {a b : Int} (ha : inI a) (hb : inI b) : Int32.ofInt a ≤ Int32.ofInt b ↔ a ≤ b := by rw [Int32.le_iff_toInt_le, sn_t ha, sn_t hb]
theorem sn_eq {a b : Int} (ha : inI a) (hb : inI b) : Int32.ofInt a = Int32.ofInt b ↔ a = b := by rw [← Int32.toInt_inj, sn_t ha, sn_t hb]
theorem sn_0 : (0 : Int32) = Int32.ofInt 0 := rfl
theorem sn_add (a b : Int) : Int32.ofInt a + Int32.ofInt b = Int32.ofInt (a + b) := (Int32.ofInt_add a b).symm
theorem sn_sub (a b : Int) : Int32.ofInt a - Int32.ofInt b = Int32.ofInt (a - b) := (Int32.ofInt_sub a b).symm
theorem sn_mul (a b : Int) : Int32.ofInt a * Int32.ofInt b = Int32.ofInt (a * b) := (Int32.ofInt_mul a b).symm
theorem sn_bm {v : Int} (hv : inI v) : v.bmod (2 ^ 32) = v := by
  have e := Int32.toInt_ofInt (n := v)
  rw [sn_t hv] at e
  exact e.symm
theorem sn_bmj {v : Int} (hv : inJ v) : v.bmod (2 ^ 64) = v := by
  have e := Int64.toInt_ofInt (n := v)
  rw [sn_tj hv] at e
  exact e.symm
theorem sn_div {a b : Int} (ha : inI a) (hb : inI b) (hv : inI (a.tdiv b)) : Int32.ofInt a / Int32.ofInt b = Int32.ofInt (a.tdiv b) := by
  rw [← Int32.toInt_inj, Int32.toInt_div, sn_t ha, sn_t hb, sn_t hv]
  exact sn_bm hv
theorem sn_rem {a b : Int} (ha : inI a) (hb : inI b) (hd : inI (a.tdiv b)) : Int32.ofInt a - Int32.ofInt a / Int32.ofInt b * Int32.ofInt b = Int32.ofInt (a.tmod b) := by
  rw [sn_div ha hb hd, sn_mul, sn_sub]
  congr 1
  have := Int.tmod_add_mul_tdiv a b
  have e : a.tdiv b * b = b * a.tdiv b := Int.mul_comm _ _
  omega
theorem sn_clamp {a : Int} (h0 : 0 ≤ a) (h : inI a) : (Int32.ofInt a).toNatClampNeg = a.toNat := by
  show (Int32.ofInt a).toInt.toNat = _
  rw [sn_t h]
theorem sn_pos {a : Int} (h0 : 0 ≤ a) (h : inI a) : ¬ Int32.ofInt a < 0 := by
  rw [sn_0, sn_lt h (by omega)]; omega
theorem sn_vin {a : Int} {n : Nat} (h0 : 0 ≤ a) (hn : a < n) (h : inI a) : vp_in (Int32.ofInt a) n := by
  rw [vp_in_iff, sn_t h]; exact ⟨h0, hn⟩
theorem sn_smod : ∀ k : Fin 32, (((Int32.ofInt ((k : Nat) : Int)).toBitVec).smod 32).toNat = (k : Nat) := by decide
theorem sn_smod' {b : Int} (h0 : 0 ≤ b) (h : b ≤ 31) : (((Int32.ofInt b).toBitVec).smod 32).toNat = b.toNat := by
  have := sn_smod ⟨b.toNat, by omega⟩
  rw [show (((⟨b.toNat, by omega⟩ : Fin 32) : Nat) : Int) = b from by show ((b.toNat : Nat) : Int) = b; omega] at this
  exact this
theorem sn_shr {a b : Int} (ha : inI a) (h0 : 0 ≤ b) (h : b ≤ 31) : Int32.ofInt a >>> Int32.ofInt b = Int32.ofInt (a / 2 ^ b.toNat) := by
  have e := pk_shr (Int32.ofInt a) (Int32.ofInt b) b.toNat (sn_smod' h0 h)
  rw [sn_t ha, Int.shiftRight_eq_div_pow] at e
  rw [← Int32.ofInt_toInt (Int32.ofInt a >>> Int32.ofInt b), e]
  congr 1
theorem sn_div_in {a : Int} {k : Nat} (ha : inI a) : inI (a / 2 ^ k) := by
  have h1 : (0 : Int) < 2 ^ k := Int.pow_pos (by decide)
  have h2 : (2:Int) ^ k ≥ 1 := h1
  have a1 := Int.ediv_mul_le a (Int.ne_of_gt h1)
  have a2 := Int.lt_ediv_add_one_mul_self a h1
  generalize a / 2 ^ k = q at *
  generalize (2:Int) ^ k = d at *
  constructor
  · by_cases hq : 0 ≤ q
    · omega
    · have : (q + 1) * d ≤ q + 1 := by
        have h5 := Int.mul_le_mul_of_nonneg_left h2 (show 0 ≤ -(q + 1) by omega)
        simp only [Int.neg_mul, Int.mul_one] at h5
        generalize (q + 1) * d = z at *
        omega
      omega
  · by_cases hq : 0 ≤ q
    · have : q ≤ q * d := by
        have := Int.mul_le_mul_of_nonneg_left h2 hq
        omega
      omega
    · omega
theorem sn_shl {a b : Int} (h0 : 0 ≤ b) (h : b ≤ 31) : Int32.ofInt a <<< Int32.ofInt b = Int32.ofInt (a * 2 ^ b.toNat) := by
  have e := pk_shl (Int32.ofInt a) (Int32.ofInt b) b.toNat (sn_smod' h0 h)
  apply Int32.toBitVec_inj.mp
  apply BitVec.eq_of_toNat_eq
  rw [e]
  show (BitVec.ofInt 32 a).toNat * 2 ^ b.toNat % 2 ^ 32 = (BitVec.ofInt 32 (a * 2 ^ b.toNat)).toNat
  rw [BitVec.toNat_ofInt, BitVec.toNat_ofInt]
  have hp : (0:Int) ≤ 2 ^ b.toNat := Int.le_of_lt (Int.pow_pos (by decide))
  have h1 : 0 ≤ a % ((2 ^ 32 : Nat) : Int) := Int.emod_nonneg _ (by decide)
  have h2 : 0 ≤ a * 2 ^ b.toNat % ((2 ^ 32 : Nat) : Int) := Int.emod_nonneg _ (by decide)
  apply Int.ofNat_inj.mp
  rw [Int.natCast_emod, Int.natCast_mul, Int.toNat_of_nonneg h1, Int.toNat_of_nonneg h2]
  have hc : ((2 ^ b.toNat : Nat) : Int) = 2 ^ b.toNat := by rw [Int.natCast_pow]; rfl
  rw [hc, Int.mul_emod (a % _), Int.emod_emod, ← Int.mul_emod]
theorem sn_ushr {a b : Int} (ha : inI a) (h : 0 ≤ a) (h0 : 0 ≤ b) (h1 : b ≤ 31) : ((Int32.ofInt a).toUInt32 >>> ((Int32.ofInt b).toUInt32 &&& Int32.toUInt32 31)).toInt32 = Int32.ofInt (a / 2 ^ b.toNat) := by
  have hk : ∀ k : Fin 32, ((((Int32.ofInt ((k : Nat) : Int)).toUInt32 &&& Int32.toUInt32 31).toBitVec) % 32).toNat = (k : Nat) := by decide
  have hk' := hk ⟨b.toNat, by omega⟩
  rw [show (((⟨b.toNat, by omega⟩ : Fin 32) : Nat) : Int) = b from by show ((b.toNat : Nat) : Int) = b; omega] at hk'
  have e := pk_ushrN (n := a.toNat) (by omega) (Int32.ofInt b) b.toNat hk'
  have e2 : nI a.toNat = Int32.ofInt a := by
    show Int32.ofInt ((a.toNat : Nat) : Int) = _
    rw [Int.toNat_of_nonneg h]
  rw [e2] at e
  rw [e]
  show Int32.ofInt ((a.toNat / 2 ^ b.toNat : Nat) : Int) = _
  rw [Int.natCast_ediv, Int.toNat_of_nonneg h, Int.natCast_pow]
  rfl
theorem sn_i2l {a : Int} (ha : inI a) : (Int32.ofInt a).toInt64 = Int64.ofInt a := by
  rw [← Int64.toInt_inj, Int32.toInt_toInt64, sn_t ha, sn_tj (by omega)]
theorem sn_l2i (a : Int) : (Int64.ofInt a).toInt32 = Int32.ofInt a := by
  first | exact Int64.toInt32_ofInt a | (apply Int32.toInt_inj.mp; simp)
theorem sn_b {n : Int} : (Int8.ofInt n).toInt32 = Int32.ofInt (Int8.ofInt n).toInt := by
  rw [← Int32.toInt_inj, Int8.toInt_toInt32, sn_t ⟨by have := Int8.le_toInt (Int8.ofInt n); omega, by have := Int8.toInt_lt (Int8.ofInt n); omega⟩]
theorem sn_h {n : Int} : (Int16.ofInt n).toInt32 = Int32.ofInt (Int16.ofInt n).toInt := by
  rw [← Int32.toInt_inj, Int16.toInt_toInt32, sn_t ⟨by have := Int16.le_toInt (Int16.ofInt n); omega, by have := Int16.toInt_lt (Int16.ofInt n); omega⟩]
theorem sn_bin {n : Int} : inI (Int8.ofInt n).toInt := ⟨by have := Int8.le_toInt (Int8.ofInt n); omega, by have := Int8.toInt_lt (Int8.ofInt n); omega⟩
theorem sn_hin {n : Int} : inI (Int16.ofInt n).toInt := ⟨by have := Int16.le_toInt (Int16.ofInt n); omega, by have := Int16.toInt_lt (Int16.ofInt n); omega⟩
theorem sn_addj (a b : Int) : Int64.ofInt a + Int64.ofInt b = Int64.ofInt (a + b) := (Int64.ofInt_add a b).symm
theorem sn_subj (a b : Int) : Int64.ofInt a - Int64.ofInt b = Int64.ofInt (a - b) := (Int64.ofInt_sub a b).symm
theorem sn_mulj (a b : Int) : Int64.ofInt a * Int64.ofInt b = Int64.ofInt (a * b) := (Int64.ofInt_mul a b).symm
theorem sn_remj {a b : Int} (ha : inJ a) (hb : inJ b) (hd : inJ (a.tdiv b)) : Int64.ofInt a - Int64.ofInt a / Int64.ofInt b * Int64.ofInt b = Int64.ofInt (a.tmod b) := by
  have e : Int64.ofInt a / Int64.ofInt b = Int64.ofInt (a.tdiv b) := by
    rw [← Int64.toInt_inj, Int64.toInt_div, sn_tj ha, sn_tj hb, sn_tj hd]
    exact sn_bmj hd
  rw [e, sn_mulj, sn_subj]
  congr 1
  have := Int.tmod_add_mul_tdiv a b
  have e : a.tdiv b * b = b * a.tdiv b := Int.mul_comm _ _
  omega
theorem sn_lshr {a b : Int} (ha : inJ a) (h0 : 0 ≤ b) (h : b ≤ 31) : Int64.ofInt a >>> ((Int32.ofInt b).toInt64 &&& 63) = Int64.ofInt (a / 2 ^ b.toNat) := by
  have hk : ∀ k : Fin 32, ((((Int32.ofInt ((k : Nat) : Int)).toInt64 &&& 63).toBitVec).smod 64).toNat = (k : Nat) := by decide
  have hk' := hk ⟨b.toNat, by omega⟩
  rw [show (((⟨b.toNat, by omega⟩ : Fin 32) : Nat) : Int) = b from by show ((b.toNat : Nat) : Int) = b; omega] at hk'
  rw [← Int64.ofInt_toInt (Int64.ofInt a >>> ((Int32.ofInt b).toInt64 &&& 63))]
  congr 1
  show ((Int64.ofInt a).toBitVec.sshiftRight (((Int32.ofInt b).toInt64 &&& 63).toBitVec.smod 64).toNat).toInt = _
  rw [hk', BitVec.toInt_sshiftRight, Int.shiftRight_eq_div_pow]
  show (Int64.ofInt a).toInt / _ = _
  rw [sn_tj ha]
  rfl
theorem sn_zeq {a b : Int} (hb : inI b) (h : b ≠ 0) : ¬ Int32.ofInt b = 0 := by rw [sn_0, sn_eq hb (by omega)]; exact h
theorem sn_zeqj {b : Int} (hb : inJ b) (h : b ≠ 0) : ¬ Int64.ofInt b = 0 := by
  intro e
  have := congrArg Int64.toInt e
  rw [sn_tj hb] at this
  exact h this
theorem sn_and (a b : Int) : Int32.ofInt a &&& Int32.ofInt b = Int32.ofInt (sx_and a b) := (Int32.ofInt_toInt _).symm
theorem sn_or (a b : Int) : Int32.ofInt a ||| Int32.ofInt b = Int32.ofInt (sx_or a b) := (Int32.ofInt_toInt _).symm
theorem sn_xor (a b : Int) : Int32.ofInt a ^^^ Int32.ofInt b = Int32.ofInt (sx_xor a b) := (Int32.ofInt_toInt _).symm
theorem sn_land (a b : Int) : Int64.ofInt a &&& Int64.ofInt b = Int64.ofInt (sx_land a b) := (Int64.ofInt_toInt _).symm
theorem sn_tdiv_abs (a : Int) {b : Int} (hb : 0 < b) : -(a.natAbs : Int) ≤ a.tdiv b ∧ a.tdiv b ≤ (a.natAbs : Int) := by
  have h := Int.natAbs_tdiv_le_natAbs a b
  generalize a.tdiv b = q at h ⊢
  omega
theorem sn_tdiv_in {a b : Int} (ha : inI a) (hb : 0 < b) (hn : a.natAbs ≤ 2147483647) : inI (a.tdiv b) := by
  have := sn_tdiv_abs a hb
  omega
theorem sn_tdiv_min {a b : Int} (ha : inI a) (hb : 0 < b) : inI (a.tdiv b) := by
  have h := sn_tdiv_abs a hb
  by_cases z : a < 0
  · have h2 := Int.tdiv_nonneg (a := -a) (b := b) (by omega) (by omega)
    rw [Int.neg_tdiv] at h2
    omega
  · omega
theorem sn_tdivj_min {a b : Int} (ha : inJ a) (hb : 0 < b) : inJ (a.tdiv b) := by
  have h := sn_tdiv_abs a hb
  by_cases z : a < 0
  · have h2 := Int.tdiv_nonneg (a := -a) (b := b) (by omega) (by omega)
    rw [Int.neg_tdiv] at h2
    omega
  · omega
theorem sn_divj_in {a : Int} {k : Nat} (ha : inJ a) : inJ (a / 2 ^ k) := by
  have h1 : (0 : Int) < 2 ^ k := Int.pow_pos (by decide)
  have h2 : (2:Int) ^ k ≥ 1 := h1
  have a1 := Int.ediv_mul_le a (Int.ne_of_gt h1)
  have a2 := Int.lt_ediv_add_one_mul_self a h1
  generalize a / 2 ^ k = q at *
  generalize (2:Int) ^ k = d at *
  constructor
  · by_cases hq : 0 ≤ q
    · omega
    · have : (q + 1) * d ≤ q + 1 := by
        have h5 := Int.mul_le_mul_of_nonneg_left h2 (show 0 ≤ -(q + 1) by omega)
        simp only [Int.neg_mul, Int.mul_one] at h5
        generalize (q + 1) * d = z at *
        omega
      omega
  · by_cases hq : 0 ≤ q
    · have : q ≤ q * d := by
        have := Int.mul_le_mul_of_nonneg_left h2 hq
        omega
      omega
    · omega
