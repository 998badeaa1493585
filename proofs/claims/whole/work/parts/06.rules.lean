/-! the plain machine, an instruction a row -/
def sx_sw : List (Int × Nat) → Nat → Int → (Nat → Prop) → Prop
  | [], d, _, P => P d
  | (c, t) :: l, d, a, P => (a = c → P t) ∧ (a ≠ c → sx_sw l d a P)
def sx_swt : List (Int × Nat) → Nat → Int → Nat
  | [], d, _ => d
  | (c, t) :: l, d, a => if a = c then t else sx_swt l d a
theorem sx_sw_iff (l : List (Int × Nat)) (d : Nat) (a : Int) (P : Nat → Prop) : sx_sw l d a P ↔ P (sx_swt l d a) := by
  induction l with
  | nil => exact Iff.rfl
  | cons q l ih =>
    obtain ⟨c, t⟩ := q
    show (a = c → P t) ∧ (a ≠ c → sx_sw l d a P) ↔ P (if a = c then t else sx_swt l d a)
    by_cases h : a = c
    · simp [h]
    · simp only [h, false_implies, true_and, ne_eq, not_false_eq_true, true_implies, if_false]
      exact ih
section RU
variable {mi pc : Nat} {L : sxL} {st : List sxV} {T : sxT} {σ : sxS} {K : Option sxV → sxT → sxS → Prop}
theorem R_if {c : Prop} [Decidable c] {pc' : Nat} {L' : sxL} {st' : List sxV} {T' : sxT} {σ' : sxS} (h : sx_exec mi pc L st T σ = if c then some (.inl (pc', L', st', T', σ')) else none) : Rn mi pc L st T σ K ↔ c ∧ Rn mi pc' L' st' T' σ' K := by
  by_cases z : c
  · rw [if_pos z] at h
    rw [Rn_next h]
    simp [z]
  · rw [if_neg z] at h
    rw [Rn_none h]
    simp [z]
theorem R_iconst {n : Int} (hd : decode (sx_cod mi) pc = .ok (.iconst n, 1)) (hn : inI n) : Rn mi pc L st T σ K ↔ Rn mi (pc + 1) L (vI n :: st) T σ K := Rn_next (by simp only [sx_exec, hd, sx_len, sx_do, or_true, if_true, if_pos hn])
theorem R_bipush {n v : Int} (hd : decode (sx_cod mi) pc = .ok (.bipush n, 2)) (hv : (Int8.ofInt n).toInt = v) : Rn mi pc L st T σ K ↔ Rn mi (pc + 2) L (vI v :: st) T σ K := Rn_next (by subst hv; simp only [sx_exec, hd, sx_len, sx_do, or_true, if_true])
theorem R_sipush {n v : Int} (hd : decode (sx_cod mi) pc = .ok (.sipush n, 3)) (hv : (Int16.ofInt n).toInt = v) : Rn mi pc L st T σ K ↔ Rn mi (pc + 3) L (vI v :: st) T σ K := Rn_next (by subst hv; simp only [sx_exec, hd, sx_len, sx_do, or_true, if_true])
theorem R_lconst {n : Fin 2} {v : Int} (hd : decode (sx_cod mi) pc = .ok (.lconst n, 1)) (hv : ((n : Nat) : Int) = v) : Rn mi pc L st T σ K ↔ Rn mi (pc + 1) L (vJ v :: st) T σ K := Rn_next (by subst hv; simp only [sx_exec, hd, sx_len, sx_do, or_true, if_true])
theorem lk_of {oi idx a b c : Nat} (h : (sx_lk oi idx).map (fun r => (r.1, r.2.1, r.2.2.1)) = some (a, b, c)) : ∃ ps, sx_lk oi idx = some (a, b, c, ps) := by
  cases hz : sx_lk oi idx with
  | none => rw [hz] at h; cases h
  | some r =>
    rw [hz] at h
    obtain ⟨x, y, z, ps⟩ := r
    cases h
    exact ⟨ps, rfl⟩
theorem R_ldcI {idx v : Nat} {w : Int} (hd : decode (sx_cod mi) pc = .ok (.ldc idx, 2)) (hl : (sx_lk (sx_oi mi) idx).map (fun r => (r.1, r.2.1, r.2.2.1)) = some (8, 0, v)) (hv : inI v) (hw : (v : Int) = w) : Rn mi pc L st T σ K ↔ Rn mi (pc + 2) L (vI w :: st) T σ K := by
  obtain ⟨ps, hl⟩ := lk_of hl
  subst hw
  exact Rn_next (by simp only [sx_exec, hd, sx_len, sx_do, hl, or_true, if_true, if_pos hv])
theorem R_ldcw {idx v : Nat} {w : Int} (hd : decode (sx_cod mi) pc = .ok (.ldc_w idx, 3)) (hl : (sx_lk (sx_oi mi) idx).map (fun r => (r.1, r.2.1, r.2.2.1)) = some (8, 0, v)) (hv : inI v) (hw : (v : Int) = w) : Rn mi pc L st T σ K ↔ Rn mi (pc + 3) L (vI w :: st) T σ K := by
  obtain ⟨ps, hl⟩ := lk_of hl
  subst hw
  exact Rn_next (by simp only [sx_exec, hd, sx_len, sx_do, hl, or_true, if_true, if_pos hv])
theorem R_ldcS {idx j : Nat} {n : Nat} (hd : decode (sx_cod mi) pc = .ok (.ldc idx, 2)) (hl : (sx_lk (sx_oi mi) idx).map (fun r => (r.1, r.2.1, r.2.2.1)) = some (10, j, 0)) (hj : j < 7) (hn : 1000001 + j = n) : Rn mi pc L st T σ K ↔ Rn mi (pc + 2) L (vR n :: st) T σ K := by
  obtain ⟨ps, hl⟩ := lk_of hl
  subst hn
  exact Rn_next (by simp only [sx_exec, hd, sx_len, sx_do, hl, or_true, if_true, if_pos hj])
theorem R_ldc2 {idx v : Nat} {w : Int} (hd : decode (sx_cod mi) pc = .ok (.ldc2_w idx, 3)) (hl : (sx_lk (sx_oi mi) idx).map (fun r => (r.1, r.2.1, r.2.2.1)) = some (9, 0, v)) (hv : inJ v) (hw : (v : Int) = w) : Rn mi pc L st T σ K ↔ Rn mi (pc + 3) L (vJ w :: st) T σ K := by
  obtain ⟨ps, hl⟩ := lk_of hl
  subst hw
  exact Rn_next (by simp only [sx_exec, hd, sx_len, sx_do, hl, or_true, if_true, if_pos hv])
theorem R_iload_n {n : Fin 4} {v : Int} (hd : decode (sx_cod mi) pc = .ok (.iload_n n, 1)) (hl : L[(n : Nat)]? = some (some (vI v))) : Rn mi pc L st T σ K ↔ Rn mi (pc + 1) L (vI v :: st) T σ K := Rn_next (by simp only [sx_exec, hd, sx_len, sx_do, sx_ldI, hl, or_true, if_true])
theorem R_iload {n : Nat} {v : Int} (hd : decode (sx_cod mi) pc = .ok (.iload n, 2)) (hl : L[n]? = some (some (vI v))) : Rn mi pc L st T σ K ↔ Rn mi (pc + 2) L (vI v :: st) T σ K := Rn_next (by simp only [sx_exec, hd, sx_len, sx_do, sx_ldI, hl, or_true, if_true])
theorem R_aload_n {n : Fin 4} {v : Nat} (hd : decode (sx_cod mi) pc = .ok (.aload_n n, 1)) (hl : L[(n : Nat)]? = some (some (vR v))) : Rn mi pc L st T σ K ↔ Rn mi (pc + 1) L (vR v :: st) T σ K := Rn_next (by simp only [sx_exec, hd, sx_len, sx_do, sx_ldA, hl, or_true, if_true])
theorem R_aload {n : Nat} {v : Nat} (hd : decode (sx_cod mi) pc = .ok (.aload n, 2)) (hl : L[n]? = some (some (vR v))) : Rn mi pc L st T σ K ↔ Rn mi (pc + 2) L (vR v :: st) T σ K := Rn_next (by simp only [sx_exec, hd, sx_len, sx_do, sx_ldA, hl, or_true, if_true])
theorem R_istore_n {n : Fin 4} {v : Int} (hd : decode (sx_cod mi) pc = .ok (.istore_n n, 1)) (hl : Nat.ble ((n : Nat) + 1) L.length = true) : Rn mi pc L (vI v :: st) T σ K ↔ Rn mi (pc + 1) (L.set n (some (vI v))) st T σ K := Rn_next (by have h : (n : Nat) < L.length := Nat.le_of_ble_eq_true hl; simp only [sx_exec, hd, sx_len, sx_do, sx_stI, or_true, if_true]; rw [if_pos h])
theorem R_istore {n : Nat} {v : Int} (hd : decode (sx_cod mi) pc = .ok (.istore n, 2)) (hl : Nat.ble (n + 1) L.length = true) : Rn mi pc L (vI v :: st) T σ K ↔ Rn mi (pc + 2) (L.set n (some (vI v))) st T σ K := Rn_next (by have h : (n : Nat) < L.length := Nat.le_of_ble_eq_true hl; simp only [sx_exec, hd, sx_len, sx_do, sx_stI, or_true, if_true]; rw [if_pos h])
theorem R_astore_n {n : Fin 4} {v : Nat} (hd : decode (sx_cod mi) pc = .ok (.astore_n n, 1)) (hl : Nat.ble ((n : Nat) + 1) L.length = true) : Rn mi pc L (vR v :: st) T σ K ↔ Rn mi (pc + 1) (L.set n (some (vR v))) st T σ K := Rn_next (by have h : (n : Nat) < L.length := Nat.le_of_ble_eq_true hl; simp only [sx_exec, hd, sx_len, sx_do, sx_stA, or_true, if_true]; rw [if_pos h])
theorem R_iinc {n : Nat} {d v : Int} (hd : decode (sx_cod mi) pc = .ok (.iinc n d, 3)) (hl : L[n]? = some (some (vI v))) : Rn mi pc L st T σ K ↔ inI (v + d) ∧ Rn mi (pc + 3) (L.set n (some (vI (v + d)))) st T σ K := R_if (by simp only [sx_exec, hd, sx_len, sx_do, hl, or_true, if_true])
theorem R_iadd {a b : Int} (hd : decode (sx_cod mi) pc = .ok (.iadd, 1)) : Rn mi pc L (vI b :: vI a :: st) T σ K ↔ inI (a + b) ∧ Rn mi (pc + 1) L (vI (a + b) :: st) T σ K := R_if (by simp only [sx_exec, hd, sx_len, sx_do, sx_bin, or_true, if_true])
theorem R_isub {a b : Int} (hd : decode (sx_cod mi) pc = .ok (.isub, 1)) : Rn mi pc L (vI b :: vI a :: st) T σ K ↔ inI (a - b) ∧ Rn mi (pc + 1) L (vI (a - b) :: st) T σ K := R_if (by simp only [sx_exec, hd, sx_len, sx_do, sx_bin, or_true, if_true])
theorem R_imul {a b : Int} (hd : decode (sx_cod mi) pc = .ok (.imul, 1)) : Rn mi pc L (vI b :: vI a :: st) T σ K ↔ inI (a * b) ∧ Rn mi (pc + 1) L (vI (a * b) :: st) T σ K := R_if (by simp only [sx_exec, hd, sx_len, sx_do, sx_bin, or_true, if_true])
theorem R_idiv {a b : Int} (hd : decode (sx_cod mi) pc = .ok (.idiv, 1)) : Rn mi pc L (vI b :: vI a :: st) T σ K ↔ 0 < b ∧ inI (a.tdiv b) ∧ Rn mi (pc + 1) L (vI (a.tdiv b) :: st) T σ K := by
  by_cases z : 0 < b
  · rw [R_if (c := inI (a.tdiv b)) (pc' := pc + 1) (L' := L) (st' := vI (a.tdiv b) :: st) (T' := T) (σ' := σ) (by simp only [sx_exec, hd, sx_len, sx_do, sx_bin, or_true, if_true, if_pos z])]
    simp [z]
  · rw [Rn_none (by simp only [sx_exec, hd, sx_len, sx_do, sx_bin, or_true, if_true, if_neg z])]
    simp [z]
theorem R_irem {a b : Int} (hd : decode (sx_cod mi) pc = .ok (.irem, 1)) : Rn mi pc L (vI b :: vI a :: st) T σ K ↔ 0 < b ∧ inI (a.tmod b) ∧ Rn mi (pc + 1) L (vI (a.tmod b) :: st) T σ K := by
  by_cases z : 0 < b
  · rw [R_if (c := inI (a.tmod b)) (pc' := pc + 1) (L' := L) (st' := vI (a.tmod b) :: st) (T' := T) (σ' := σ) (by simp only [sx_exec, hd, sx_len, sx_do, sx_bin, or_true, if_true, if_pos z])]
    simp [z]
  · rw [Rn_none (by simp only [sx_exec, hd, sx_len, sx_do, sx_bin, or_true, if_true, if_neg z])]
    simp [z]
theorem R_ishl {a b : Int} (hd : decode (sx_cod mi) pc = .ok (.ishl, 1)) : Rn mi pc L (vI b :: vI a :: st) T σ K ↔ (0 ≤ b ∧ b ≤ 31) ∧ inI (a * 2 ^ b.toNat) ∧ Rn mi (pc + 1) L (vI (a * 2 ^ b.toNat) :: st) T σ K := by
  by_cases z : 0 ≤ b ∧ b ≤ 31
  · rw [R_if (c := inI (a * 2 ^ b.toNat)) (pc' := pc + 1) (L' := L) (st' := vI (a * 2 ^ b.toNat) :: st) (T' := T) (σ' := σ) (by simp only [sx_exec, hd, sx_len, sx_do, sx_bin, or_true, if_true, if_pos z])]
    simp [z]
  · rw [Rn_none (by simp only [sx_exec, hd, sx_len, sx_do, sx_bin, or_true, if_true, if_neg z])]
    simp only [z, false_and]
theorem R_ishr {a b : Int} (hd : decode (sx_cod mi) pc = .ok (.ishr, 1)) : Rn mi pc L (vI b :: vI a :: st) T σ K ↔ (0 ≤ b ∧ b ≤ 31) ∧ inI (a / 2 ^ b.toNat) ∧ Rn mi (pc + 1) L (vI (a / 2 ^ b.toNat) :: st) T σ K := by
  by_cases z : 0 ≤ b ∧ b ≤ 31
  · rw [R_if (c := inI (a / 2 ^ b.toNat)) (pc' := pc + 1) (L' := L) (st' := vI (a / 2 ^ b.toNat) :: st) (T' := T) (σ' := σ) (by simp only [sx_exec, hd, sx_len, sx_do, sx_bin, or_true, if_true, if_pos z])]
    simp [z]
  · rw [Rn_none (by simp only [sx_exec, hd, sx_len, sx_do, sx_bin, or_true, if_true, if_neg z])]
    simp only [z, false_and]
theorem R_iushr {a b : Int} (hd : decode (sx_cod mi) pc = .ok (.iushr, 1)) : Rn mi pc L (vI b :: vI a :: st) T σ K ↔ (0 ≤ b ∧ b ≤ 31 ∧ 0 ≤ a) ∧ inI (a / 2 ^ b.toNat) ∧ Rn mi (pc + 1) L (vI (a / 2 ^ b.toNat) :: st) T σ K := by
  by_cases z : 0 ≤ b ∧ b ≤ 31 ∧ 0 ≤ a
  · rw [R_if (c := inI (a / 2 ^ b.toNat)) (pc' := pc + 1) (L' := L) (st' := vI (a / 2 ^ b.toNat) :: st) (T' := T) (σ' := σ) (by simp only [sx_exec, hd, sx_len, sx_do, sx_bin, or_true, if_true, if_pos z])]
    simp [z]
  · rw [Rn_none (by simp only [sx_exec, hd, sx_len, sx_do, sx_bin, or_true, if_true, if_neg z])]
    simp only [z, false_and]
theorem ru_in (z : Int32) : inI z.toInt := ⟨Int32.le_toInt z, by have := Int32.toInt_lt z; omega⟩
theorem R_iand {a b : Int} (hd : decode (sx_cod mi) pc = .ok (.iand, 1)) : Rn mi pc L (vI b :: vI a :: st) T σ K ↔ Rn mi (pc + 1) L (vI (sx_and a b) :: st) T σ K := Rn_next (by have h : inI (sx_and a b) := ru_in _; simp only [sx_exec, hd, sx_len, sx_do, sx_bin, or_true, if_true]; rw [if_pos h])
theorem R_ior {a b : Int} (hd : decode (sx_cod mi) pc = .ok (.ior, 1)) : Rn mi pc L (vI b :: vI a :: st) T σ K ↔ Rn mi (pc + 1) L (vI (sx_or a b) :: st) T σ K := Rn_next (by have h : inI (sx_or a b) := ru_in _; simp only [sx_exec, hd, sx_len, sx_do, sx_bin, or_true, if_true]; rw [if_pos h])
theorem R_ixor {a b : Int} (hd : decode (sx_cod mi) pc = .ok (.ixor, 1)) : Rn mi pc L (vI b :: vI a :: st) T σ K ↔ Rn mi (pc + 1) L (vI (sx_xor a b) :: st) T σ K := Rn_next (by have h : inI (sx_xor a b) := ru_in _; simp only [sx_exec, hd, sx_len, sx_do, sx_bin, or_true, if_true]; rw [if_pos h])
theorem R_ineg {a : Int} (hd : decode (sx_cod mi) pc = .ok (.ineg, 1)) : Rn mi pc L (vI a :: st) T σ K ↔ inI (-a) ∧ Rn mi (pc + 1) L (vI (-a) :: st) T σ K := R_if (by simp only [sx_exec, hd, sx_len, sx_do, or_true, if_true])
theorem R_i2l {a : Int} (hd : decode (sx_cod mi) pc = .ok (.i2l, 1)) : Rn mi pc L (vI a :: st) T σ K ↔ Rn mi (pc + 1) L (vJ a :: st) T σ K := Rn_next (by simp only [sx_exec, hd, sx_len, sx_do, or_true, if_true])
theorem R_l2i {a : Int} (hd : decode (sx_cod mi) pc = .ok (.l2i, 1)) : Rn mi pc L (vJ a :: st) T σ K ↔ inI a ∧ Rn mi (pc + 1) L (vI a :: st) T σ K := R_if (by simp only [sx_exec, hd, sx_len, sx_do, or_true, if_true])
theorem R_ladd {a b : Int} (hd : decode (sx_cod mi) pc = .ok (.ladd, 1)) : Rn mi pc L (vJ b :: vJ a :: st) T σ K ↔ inJ (a + b) ∧ Rn mi (pc + 1) L (vJ (a + b) :: st) T σ K := R_if (by simp only [sx_exec, hd, sx_len, sx_do, sx_binJ, or_true, if_true])
theorem R_lmul {a b : Int} (hd : decode (sx_cod mi) pc = .ok (.lmul, 1)) : Rn mi pc L (vJ b :: vJ a :: st) T σ K ↔ inJ (a * b) ∧ Rn mi (pc + 1) L (vJ (a * b) :: st) T σ K := R_if (by simp only [sx_exec, hd, sx_len, sx_do, sx_binJ, or_true, if_true])
theorem R_land {a b : Int} (hd : decode (sx_cod mi) pc = .ok (.land, 1)) : Rn mi pc L (vJ b :: vJ a :: st) T σ K ↔ inJ (sx_land a b) ∧ Rn mi (pc + 1) L (vJ (sx_land a b) :: st) T σ K := R_if (by simp only [sx_exec, hd, sx_len, sx_do, sx_binJ, or_true, if_true])
theorem R_lrem {a b : Int} (hd : decode (sx_cod mi) pc = .ok (.lrem, 1)) : Rn mi pc L (vJ b :: vJ a :: st) T σ K ↔ 0 < b ∧ inJ (a.tmod b) ∧ Rn mi (pc + 1) L (vJ (a.tmod b) :: st) T σ K := by
  by_cases z : 0 < b
  · rw [R_if (c := inJ (a.tmod b)) (pc' := pc + 1) (L' := L) (st' := vJ (a.tmod b) :: st) (T' := T) (σ' := σ) (by simp only [sx_exec, hd, sx_len, sx_do, sx_binJ, or_true, if_true, if_pos z])]
    simp [z]
  · rw [Rn_none (by simp only [sx_exec, hd, sx_len, sx_do, sx_binJ, or_true, if_true, if_neg z])]
    simp [z]
theorem R_lshr {a b : Int} (hd : decode (sx_cod mi) pc = .ok (.lshr, 1)) : Rn mi pc L (vI b :: vJ a :: st) T σ K ↔ (0 ≤ b ∧ b ≤ 31) ∧ Rn mi (pc + 1) L (vJ (a / 2 ^ b.toNat) :: st) T σ K := R_if (by simp only [sx_exec, hd, sx_len, sx_do, or_true, if_true])
theorem R_dup {v : sxV} (hd : decode (sx_cod mi) pc = .ok (.dup, 1)) (hv : sx_nJ v = true) : Rn mi pc L (v :: st) T σ K ↔ Rn mi (pc + 1) L (v :: v :: st) T σ K := Rn_next (by simp only [sx_exec, hd, sx_len, sx_do, hv, or_true, if_true])
theorem R_dup2 {v w : sxV} (hd : decode (sx_cod mi) pc = .ok (.dup2, 1)) (hv : sx_nJ v = true) (hw : sx_nJ w = true) : Rn mi pc L (v :: w :: st) T σ K ↔ Rn mi (pc + 1) L (v :: w :: v :: w :: st) T σ K := Rn_next (by simp only [sx_exec, hd, sx_len, sx_do, hv, hw, and_self, or_true, if_true])
theorem R_pop {v : sxV} (hd : decode (sx_cod mi) pc = .ok (.pop, 1)) (hv : sx_nJ v = true) : Rn mi pc L (v :: st) T σ K ↔ Rn mi (pc + 1) L st T σ K := Rn_next (by simp only [sx_exec, hd, sx_len, sx_do, hv, or_true, if_true])
theorem R_goto {off : Int} {t : Nat} (hd : decode (sx_cod mi) pc = .ok (.goto off, 3)) (ht : (pc : Int) + off = (t : Int)) : Rn mi pc L st T σ K ↔ Rn mi t L st T σ K := Rn_next (by have h : 0 ≤ (t : Int) := (by omega); simp only [sx_exec, hd, sx_len, sx_do, sx_jmp, or_true, if_true, ht, Int.toNat_natCast]; rw [if_pos h])
theorem R_br {c : Prop} [Decidable c] {t : Nat} {st' : List sxV} (h : sx_exec mi pc L st T σ = some (.inl (if c then t else pc + 3, L, st', T, σ))) : Rn mi pc L st T σ K ↔ (c → Rn mi t L st' T σ K) ∧ (¬ c → Rn mi (pc + 3) L st' T σ K) := by
  rw [Rn_next h]
  by_cases z : c
  · simp [z]
  · simp [z]
theorem R_icmp {cd : ClassFile.Cond} {off : Int} {t : Nat} {a b : Int} (hd : decode (sx_cod mi) pc = .ok (.if_icmp cd off, 3)) (ht : (pc : Int) + off = (t : Int)) : Rn mi pc L (vI b :: vI a :: st) T σ K ↔ (sx_cmp cd a b = true → Rn mi t L st T σ K) ∧ (¬ sx_cmp cd a b = true → Rn mi (pc + 3) L st T σ K) := R_br (by have h : 0 ≤ (t : Int) := (by omega); simp only [sx_exec, hd, sx_len, sx_do, or_true, if_true, ht, Int.toNat_natCast]; rw [if_pos h])
theorem R_ifc {cd : ClassFile.Cond} {off : Int} {t : Nat} {a : Int} (hd : decode (sx_cod mi) pc = .ok (.ifCond cd off, 3)) (ht : (pc : Int) + off = (t : Int)) : Rn mi pc L (vI a :: st) T σ K ↔ (sx_cmp cd a 0 = true → Rn mi t L st T σ K) ∧ (¬ sx_cmp cd a 0 = true → Rn mi (pc + 3) L st T σ K) := R_br (by have h : 0 ≤ (t : Int) := (by omega); simp only [sx_exec, hd, sx_len, sx_do, or_true, if_true, ht, Int.toNat_natCast]; rw [if_pos h])
theorem R_icmp_eq {off : Int} {t : Nat} {a b : Int} (hd : decode (sx_cod mi) pc = .ok (.if_icmp .eq off, 3)) (ht : (pc : Int) + off = (t : Int)) : Rn mi pc L (vI b :: vI a :: st) T σ K ↔ (a = b → Rn mi t L st T σ K) ∧ (a ≠ b → Rn mi (pc + 3) L st T σ K) := by rw [R_icmp hd ht]; simp only [sx_cmp, decide_eq_true_eq, ne_eq]
theorem R_icmp_ne {off : Int} {t : Nat} {a b : Int} (hd : decode (sx_cod mi) pc = .ok (.if_icmp .ne off, 3)) (ht : (pc : Int) + off = (t : Int)) : Rn mi pc L (vI b :: vI a :: st) T σ K ↔ (a ≠ b → Rn mi t L st T σ K) ∧ (a = b → Rn mi (pc + 3) L st T σ K) := by rw [R_icmp hd ht]; simp only [sx_cmp, decide_eq_true_eq, ne_eq, Classical.not_not]
theorem R_icmp_lt {off : Int} {t : Nat} {a b : Int} (hd : decode (sx_cod mi) pc = .ok (.if_icmp .lt off, 3)) (ht : (pc : Int) + off = (t : Int)) : Rn mi pc L (vI b :: vI a :: st) T σ K ↔ (a < b → Rn mi t L st T σ K) ∧ (b ≤ a → Rn mi (pc + 3) L st T σ K) := by rw [R_icmp hd ht]; simp only [sx_cmp, decide_eq_true_eq, Int.not_lt]
theorem R_icmp_ge {off : Int} {t : Nat} {a b : Int} (hd : decode (sx_cod mi) pc = .ok (.if_icmp .ge off, 3)) (ht : (pc : Int) + off = (t : Int)) : Rn mi pc L (vI b :: vI a :: st) T σ K ↔ (b ≤ a → Rn mi t L st T σ K) ∧ (a < b → Rn mi (pc + 3) L st T σ K) := by rw [R_icmp hd ht]; simp only [sx_cmp, decide_eq_true_eq, Int.not_le]
theorem R_icmp_gt {off : Int} {t : Nat} {a b : Int} (hd : decode (sx_cod mi) pc = .ok (.if_icmp .gt off, 3)) (ht : (pc : Int) + off = (t : Int)) : Rn mi pc L (vI b :: vI a :: st) T σ K ↔ (b < a → Rn mi t L st T σ K) ∧ (a ≤ b → Rn mi (pc + 3) L st T σ K) := by rw [R_icmp hd ht]; simp only [sx_cmp, decide_eq_true_eq, Int.not_lt]
theorem R_icmp_le {off : Int} {t : Nat} {a b : Int} (hd : decode (sx_cod mi) pc = .ok (.if_icmp .le off, 3)) (ht : (pc : Int) + off = (t : Int)) : Rn mi pc L (vI b :: vI a :: st) T σ K ↔ (a ≤ b → Rn mi t L st T σ K) ∧ (b < a → Rn mi (pc + 3) L st T σ K) := by rw [R_icmp hd ht]; simp only [sx_cmp, decide_eq_true_eq, Int.not_le]
theorem R_if_eq {off : Int} {t : Nat} {a : Int} (hd : decode (sx_cod mi) pc = .ok (.ifCond .eq off, 3)) (ht : (pc : Int) + off = (t : Int)) : Rn mi pc L (vI a :: st) T σ K ↔ (a = 0 → Rn mi t L st T σ K) ∧ (a ≠ 0 → Rn mi (pc + 3) L st T σ K) := by rw [R_ifc hd ht]; simp only [sx_cmp, decide_eq_true_eq, ne_eq]
theorem R_if_ne {off : Int} {t : Nat} {a : Int} (hd : decode (sx_cod mi) pc = .ok (.ifCond .ne off, 3)) (ht : (pc : Int) + off = (t : Int)) : Rn mi pc L (vI a :: st) T σ K ↔ (a ≠ 0 → Rn mi t L st T σ K) ∧ (a = 0 → Rn mi (pc + 3) L st T σ K) := by rw [R_ifc hd ht]; simp only [sx_cmp, decide_eq_true_eq, ne_eq, Classical.not_not]
theorem R_if_lt {off : Int} {t : Nat} {a : Int} (hd : decode (sx_cod mi) pc = .ok (.ifCond .lt off, 3)) (ht : (pc : Int) + off = (t : Int)) : Rn mi pc L (vI a :: st) T σ K ↔ (a < 0 → Rn mi t L st T σ K) ∧ (0 ≤ a → Rn mi (pc + 3) L st T σ K) := by rw [R_ifc hd ht]; simp only [sx_cmp, decide_eq_true_eq, Int.not_lt]
theorem R_if_ge {off : Int} {t : Nat} {a : Int} (hd : decode (sx_cod mi) pc = .ok (.ifCond .ge off, 3)) (ht : (pc : Int) + off = (t : Int)) : Rn mi pc L (vI a :: st) T σ K ↔ (0 ≤ a → Rn mi t L st T σ K) ∧ (a < 0 → Rn mi (pc + 3) L st T σ K) := by rw [R_ifc hd ht]; simp only [sx_cmp, decide_eq_true_eq, Int.not_le]
theorem R_if_gt {off : Int} {t : Nat} {a : Int} (hd : decode (sx_cod mi) pc = .ok (.ifCond .gt off, 3)) (ht : (pc : Int) + off = (t : Int)) : Rn mi pc L (vI a :: st) T σ K ↔ (0 < a → Rn mi t L st T σ K) ∧ (a ≤ 0 → Rn mi (pc + 3) L st T σ K) := by rw [R_ifc hd ht]; simp only [sx_cmp, decide_eq_true_eq, Int.not_lt]
theorem R_if_le {off : Int} {t : Nat} {a : Int} (hd : decode (sx_cod mi) pc = .ok (.ifCond .le off, 3)) (ht : (pc : Int) + off = (t : Int)) : Rn mi pc L (vI a :: st) T σ K ↔ (a ≤ 0 → Rn mi t L st T σ K) ∧ (0 < a → Rn mi (pc + 3) L st T σ K) := by rw [R_ifc hd ht]; simp only [sx_cmp, decide_eq_true_eq, Int.not_le]
def sx_tgt (pc : Nat) (off : Int) (t : Nat) : Bool := decide ((pc : Int) + off = (t : Int))
theorem R_jmp {off : Int} {t : Nat} {st' : List sxV} (h : sx_exec mi pc L st T σ = sx_jmp pc off L st' T σ) (ht : (pc : Int) + off = (t : Int)) : Rn mi pc L st T σ K ↔ Rn mi t L st' T σ K := Rn_next (by
  have h0 : 0 ≤ (pc : Int) + off := (by omega)
  rw [h, sx_jmp, if_pos h0, ht, Int.toNat_natCast])
/-- the offset that a table's number has, checked against a list -/
def sx_tab (pc : Nat) (d lo hi : Int) (offs : Array Int) (l : List (Int × Nat)) (dt : Nat) : Bool := decide ((pc : Int) + d = (dt : Int)) && decide (l = (List.range offs.size).map (fun j : Nat => (lo + (j : Int), ((pc : Int) + offs.getD j 0).toNat))) && (List.range offs.size).all (fun j : Nat => decide (0 ≤ (pc : Int) + offs.getD j 0)) && decide (hi = lo + (offs.size : Int) - 1)
theorem sx_swt_map (lo : Int) (f : Nat → Nat) (d : Nat) (a : Int) : ∀ (n k : Nat), sx_swt ((List.range' k n).map (fun j : Nat => (lo + (j : Int), f j))) d a = if lo + (k : Int) ≤ a ∧ a < lo + (k : Int) + (n : Int) then f (a - lo).toNat else d := by
  intro n
  induction n with
  | zero => intro k; rw [if_neg (by omega)]; rfl
  | succ n ih =>
    intro k
    rw [List.range'_succ, List.map_cons]
    show (if a = lo + (k : Int) then f k else sx_swt _ d a) = _
    by_cases z : a = lo + (k : Int)
    · rw [if_pos z, if_pos (by omega), show (a - lo).toNat = k by omega]
    · rw [if_neg z, ih (k + 1)]
      by_cases y : lo + (k : Int) ≤ a ∧ a < lo + (k : Int) + ((n + 1 : Nat) : Int)
      · rw [if_pos (by omega), if_pos y]
      · rw [if_neg (by omega), if_neg y]
theorem R_table {d lo hi a : Int} {offs : Array Int} {len : Nat} {l : List (Int × Nat)} {dt : Nat} (hd : decode (sx_cod mi) pc = .ok (.tableswitch d lo hi offs, len)) (hl : sx_tab pc d lo hi offs l dt = true) : Rn mi pc L (vI a :: st) T σ K ↔ sx_sw l dt a (fun t => Rn mi t L st T σ K) := by
  simp only [sx_tab, Bool.and_eq_true, decide_eq_true_eq, List.all_eq_true] at hl
  obtain ⟨⟨⟨h1, h2⟩, h3⟩, h4⟩ := hl
  rw [sx_sw_iff, h2, show List.range offs.size = List.range' 0 offs.size from List.range_eq_range', sx_swt_map]
  by_cases z : a < lo ∨ hi < a
  · rw [if_neg (by omega)]
    exact R_jmp (by simp only [sx_exec, hd, sx_len, sx_do, true_or, if_true, if_pos z]) h1
  · have hj : (a - lo).toNat < offs.size := by omega
    rw [if_pos (by omega)]
    have ho : offs[(a - lo).toNat]? = some (offs.getD (a - lo).toNat 0) := by
      rw [Array.getD_eq_getD_getElem?, Array.getElem?_eq_getElem hj]; rfl
    have h5 := h3 (a - lo).toNat (List.mem_range.mpr hj)
    exact R_jmp (off := offs.getD (a - lo).toNat 0) (by simp only [sx_exec, hd, sx_len, sx_do, true_or, if_true, if_neg z, ho]) (by omega)
def sx_lookt (pc : Nat) (d : Int) (ps : List (Int × Int)) : List (Int × Nat) := ps.map (fun q => (q.1, ((pc : Int) + q.2).toNat))
def sx_look (pc : Nat) (d : Int) (ps : Array (Int × Int)) (l : List (Int × Nat)) (dt : Nat) : Bool := (ps.toList.zip (ps.toList.drop 1)).all (fun q => decide (q.1.1 < q.2.1)) && decide ((pc : Int) + d = (dt : Int)) && decide (l = sx_lookt pc d ps.toList) && ps.toList.all (fun q => decide (0 ≤ (pc : Int) + q.2))
theorem sx_look_off (pc : Nat) (d a : Int) (dt : Nat) (hd : (pc : Int) + d = (dt : Int)) : ∀ (ps : List (Int × Int)), (∀ q ∈ ps, 0 ≤ (pc : Int) + q.2) → (pc : Int) + Op.lookupswitch.offset ps d a = (sx_swt (sx_lookt pc d ps) dt a : Int) := by
  intro ps
  induction ps with
  | nil => intro _; exact hd
  | cons q ps ih =>
    intro h
    obtain ⟨c, o⟩ := q
    have ih := ih (fun q hq => h q (List.mem_cons_of_mem _ hq))
    have h0 := h (c, o) List.mem_cons_self
    show (pc : Int) + Op.lookupswitch.offset ((c, o) :: ps) d a = ((if a = c then ((pc : Int) + o).toNat else sx_swt (sx_lookt pc d ps) dt a : Nat) : Int)
    by_cases z : a = c
    · rw [if_pos z]
      subst z
      simp [Op.lookupswitch.offset]
      omega
    · rw [if_neg z, ← ih]
      congr 1
      have z' : ¬ c = a := fun y => z y.symm
      simp [Op.lookupswitch.offset, z, z']
theorem R_look {d a : Int} {ps : Array (Int × Int)} {len : Nat} {l : List (Int × Nat)} {dt : Nat} (hd : decode (sx_cod mi) pc = .ok (.lookupswitch d ps, len)) (hl : sx_look pc d ps l dt = true) : Rn mi pc L (vI a :: st) T σ K ↔ sx_sw l dt a (fun t => Rn mi t L st T σ K) := by
  simp only [sx_look, Bool.and_eq_true, decide_eq_true_eq] at hl
  obtain ⟨⟨⟨h1, h2⟩, h3⟩, h4⟩ := hl
  rw [sx_sw_iff, h3]
  refine R_jmp (off := Op.lookupswitch.offset ps.toList d a) ?_ (sx_look_off pc d a dt h2 ps.toList (fun q hq => of_decide_eq_true (List.all_eq_true.mp h4 q hq)))
  simp only [sx_exec, hd, sx_len, sx_do, true_or, if_true]
  rw [if_pos h1]
theorem R_getI {idx ci k o : Nat} (hd : decode (sx_cod mi) pc = .ok (.getfield idx, 3)) (hl : (sx_lk (sx_oi mi) idx).map (fun r => (r.1, r.2.1, r.2.2.1)) = some (0, ci, k)) (hk : sx_fk ci k = 0 ∨ sx_fk ci k = 2) : Rn mi pc L (vR o :: st) T σ K ↔ sx_kd T o = ci ∧ Rn mi (pc + 3) L (vI (σ o k) :: st) T σ K := by
  obtain ⟨ps, hl⟩ := lk_of hl
  rcases hk with hk | hk
  · exact R_if (by simp only [sx_exec, hd, sx_len, sx_do, sx_getf, hl, hk, or_true, if_true])
  · exact R_if (by simp only [sx_exec, hd, sx_len, sx_do, sx_getf, hl, hk, or_true, if_true])
theorem R_getJ {idx ci k o : Nat} (hd : decode (sx_cod mi) pc = .ok (.getfield idx, 3)) (hl : (sx_lk (sx_oi mi) idx).map (fun r => (r.1, r.2.1, r.2.2.1)) = some (0, ci, k)) (hk : sx_fk ci k = 1) : Rn mi pc L (vR o :: st) T σ K ↔ sx_kd T o = ci ∧ Rn mi (pc + 3) L (vJ (σ o k) :: st) T σ K := by
  obtain ⟨ps, hl⟩ := lk_of hl
  exact R_if (by simp only [sx_exec, hd, sx_len, sx_do, sx_getf, hl, hk, or_true, if_true])
theorem R_getR {idx ci k o : Nat} (hd : decode (sx_cod mi) pc = .ok (.getfield idx, 3)) (hl : (sx_lk (sx_oi mi) idx).map (fun r => (r.1, r.2.1, r.2.2.1)) = some (0, ci, k)) (hk : sx_fk ci k = 3) : Rn mi pc L (vR o :: st) T σ K ↔ sx_kd T o = ci ∧ ∃ t, sx_rf T o k = some t ∧ Rn mi (pc + 3) L (vR t :: st) T σ K := by
  obtain ⟨ps, hl⟩ := lk_of hl
  by_cases z : sx_kd T o = ci
  · cases hr : sx_rf T o k with
    | none =>
      rw [Rn_none (by simp only [sx_exec, hd, sx_len, sx_do, sx_getf, hl, hk, z, hr, or_true, if_true])]
      simp
    | some t =>
      rw [Rn_next (pc' := pc + 3) (L' := L) (st' := vR t :: st) (T' := T) (σ' := σ) (by simp only [sx_exec, hd, sx_len, sx_do, sx_getf, hl, hk, z, hr, or_true, if_true])]
      simp [z]
  · rw [Rn_none (by simp only [sx_exec, hd, sx_len, sx_do, sx_getf, hl, hk, if_neg z, or_true, if_true])]
    simp [z]
theorem R_putI {idx ci k o : Nat} {v : Int} (hd : decode (sx_cod mi) pc = .ok (.putfield idx, 3)) (hl : (sx_lk (sx_oi mi) idx).map (fun r => (r.1, r.2.1, r.2.2.1)) = some (0, ci, k)) (hk : sx_fk ci k = 0) (hf : sx_fin ci k = false) : Rn mi pc L (vI v :: vR o :: st) T σ K ↔ sx_kd T o = ci ∧ Rn mi (pc + 3) L st T (sx_up σ o k v) K := by
  obtain ⟨ps, hl⟩ := lk_of hl
  exact R_if (by simp only [sx_exec, hd, sx_len, sx_do, sx_putf, hl, hk, hf, or_true, true_or, and_true, if_true])
theorem R_putZ {idx ci k o : Nat} {v : Int} (hd : decode (sx_cod mi) pc = .ok (.putfield idx, 3)) (hl : (sx_lk (sx_oi mi) idx).map (fun r => (r.1, r.2.1, r.2.2.1)) = some (0, ci, k)) (hk : sx_fk ci k = 2) (hf : sx_fin ci k = false) : Rn mi pc L (vI v :: vR o :: st) T σ K ↔ (sx_kd T o = ci ∧ (v = 0 ∨ v = 1)) ∧ Rn mi (pc + 3) L st T (sx_up σ o k v) K := by
  obtain ⟨ps, hl⟩ := lk_of hl
  exact R_if (by simp only [sx_exec, hd, sx_len, sx_do, sx_putf, hl, hk, hf, or_true, true_and, and_true, if_true, show ¬ ((2 : Nat) = 0) by decide, false_or, true_or])
theorem R_putIF {idx ci k o : Nat} {v : Int} (hd : decode (sx_cod mi) pc = .ok (.putfield idx, 3)) (hl : (sx_lk (sx_oi mi) idx).map (fun r => (r.1, r.2.1, r.2.2.1)) = some (0, ci, k)) (hk : sx_fk ci k = 0) (hf : sx_fin ci k = true) (hn : (sx_y mi).name = "<init>") (hc : sx_ci mi = ci) : Rn mi pc L (vI v :: vR o :: st) T σ K ↔ sx_kd T o = ci ∧ Rn mi (pc + 3) L st T (sx_up σ o k v) K := by
  obtain ⟨ps, hl⟩ := lk_of hl
  exact R_if (by simp only [sx_exec, hd, sx_len, sx_do, sx_putf, hl, hk, hf, hn, hc, or_true, true_or, and_true, if_true, and_self])
theorem R_putJ {idx ci k o : Nat} {v : Int} (hd : decode (sx_cod mi) pc = .ok (.putfield idx, 3)) (hl : (sx_lk (sx_oi mi) idx).map (fun r => (r.1, r.2.1, r.2.2.1)) = some (0, ci, k)) (hk : sx_fk ci k = 1) (hf : sx_fin ci k = false) : Rn mi pc L (vJ v :: vR o :: st) T σ K ↔ (sx_kd T o = ci ∧ inI v) ∧ Rn mi (pc + 3) L st T (sx_up σ o k v) K := by
  obtain ⟨ps, hl⟩ := lk_of hl
  exact R_if (by simp only [sx_exec, hd, sx_len, sx_do, sx_putf, hl, hk, hf, or_true, true_and, if_true])
theorem R_putR {idx ci k o t : Nat} (hd : decode (sx_cod mi) pc = .ok (.putfield idx, 3)) (hl : (sx_lk (sx_oi mi) idx).map (fun r => (r.1, r.2.1, r.2.2.1)) = some (0, ci, k)) (hk : sx_fk ci k = 3) (hf : sx_fin ci k = true) (hn : (sx_y mi).name = "<init>") (hc : sx_ci mi = ci) : Rn mi pc L (vR t :: vR o :: st) T σ K ↔ (sx_kd T o = ci ∧ t < T.length) ∧ Rn mi (pc + 3) L st (sx_setR T o k t) σ K := by
  obtain ⟨ps, hl⟩ := lk_of hl
  exact R_if (by simp only [sx_exec, hd, sx_len, sx_do, sx_putf, hl, hk, hf, hn, hc, or_true, true_and, if_true])
theorem R_new {idx ci N : Nat} {q : vw_C} (hd : decode (sx_cod mi) pc = .ok (.new idx, 3)) (hl : (sx_lk (sx_oi mi) idx).map (fun r => (r.1, r.2.1)) = some (1, ci)) (hq : sx_cls[ci]? = some q) (hN : q.2.2 = N) : Rn mi pc L st T σ K ↔ T.length < 1000000 ∧ Rn mi (pc + 3) L (vR T.length :: st) (T ++ [(ci, N, List.replicate N none)]) σ K := by
  subst hN
  cases hz : sx_lk (sx_oi mi) idx with
  | none => rw [hz] at hl; cases hl
  | some r =>
    rw [hz] at hl
    obtain ⟨x, y, z, ps⟩ := r
    cases hl
    exact R_if (by simp only [sx_exec, hd, sx_len, sx_do, sx_newo, hz, hq, or_true, if_true])
theorem R_newI {n : Int} (hd : decode (sx_cod mi) pc = .ok (.newarray .int, 2)) : Rn mi pc L (vI n :: st) T σ K ↔ (0 ≤ n ∧ n ≤ 100000 ∧ T.length < 1000000) ∧ Rn mi (pc + 2) L (vR T.length :: st) (T ++ [(20, n.toNat, [])]) σ K := R_if (by simp only [sx_exec, hd, sx_len, sx_do, sx_newa, or_true, if_true]; rfl)
theorem R_newZ {n : Int} (hd : decode (sx_cod mi) pc = .ok (.newarray .boolean, 2)) : Rn mi pc L (vI n :: st) T σ K ↔ (0 ≤ n ∧ n ≤ 100000 ∧ T.length < 1000000) ∧ Rn mi (pc + 2) L (vR T.length :: st) (T ++ [(21, n.toNat, [])]) σ K := R_if (by simp only [sx_exec, hd, sx_len, sx_do, sx_newa, or_true, if_true]; rfl)
theorem R_newP {n : Int} {idx : Nat} (hd : decode (sx_cod mi) pc = .ok (.anewarray idx, 3)) (hl : (sx_lk (sx_oi mi) idx).map (fun r => (r.1, r.2.1, r.2.2.1)) = some (1, 2, 1)) : Rn mi pc L (vI n :: st) T σ K ↔ (0 ≤ n ∧ n ≤ 100000 ∧ T.length < 1000000) ∧ Rn mi (pc + 3) L (vR T.length :: st) (T ++ [(22, n.toNat, List.replicate n.toNat none)]) σ K := by
  obtain ⟨ps, hl⟩ := lk_of hl
  exact R_if (by simp only [sx_exec, hd, sx_len, sx_do, sx_newa, hl, or_true, if_true])
theorem R_iald {i : Int} {a : Nat} (hd : decode (sx_cod mi) pc = .ok (.iaload, 1)) (h0 : mi ≠ 0) : Rn mi pc L (vI i :: vR a :: st) T σ K ↔ (sx_kd T a = 20 ∧ 0 ≤ i ∧ i < sx_ln T a) ∧ Rn mi (pc + 1) L (vI (σ a i) :: st) T σ K := R_if (by simp only [sx_exec, hd, sx_len, sx_do, sx_aload, h0, false_and, and_false, or_false, or_true, if_true])
theorem R_iald0 {i : Int} {a : Nat} (hd : decode (sx_cod 0) pc = .ok (.iaload, 1)) : Rn 0 pc L (vI i :: vR a :: st) T σ K ↔ ((sx_kd T a = 20 ∨ (sx_kd T a = 23 ∧ a = 0)) ∧ 0 ≤ i ∧ i < sx_ln T a) ∧ Rn 0 (pc + 1) L (vI (σ a i) :: st) T σ K := R_if (by simp only [sx_exec, hd, sx_len, sx_do, sx_aload, true_and, or_true, if_true])
theorem R_zald {i : Int} {a : Nat} (hd : decode (sx_cod mi) pc = .ok (.baload, 1)) : Rn mi pc L (vI i :: vR a :: st) T σ K ↔ (sx_kd T a = 21 ∧ 0 ≤ i ∧ i < sx_ln T a) ∧ Rn mi (pc + 1) L (vI (σ a i) :: st) T σ K := R_if (by simp only [sx_exec, hd, sx_len, sx_do, sx_aload, show ¬ (21 = 20) by decide, false_and, and_false, or_false, or_true, if_true])
theorem R_iast {i v : Int} {a : Nat} (hd : decode (sx_cod mi) pc = .ok (.iastore, 1)) : Rn mi pc L (vI v :: vI i :: vR a :: st) T σ K ↔ (sx_kd T a = 20 ∧ 0 ≤ i ∧ i < sx_ln T a) ∧ Rn mi (pc + 1) L st T (sx_up σ a i v) K := R_if (by simp only [sx_exec, hd, sx_len, sx_do, sx_astore, true_or, and_true, or_true, if_true])
theorem R_zast {i v : Int} {a : Nat} (hd : decode (sx_cod mi) pc = .ok (.bastore, 1)) : Rn mi pc L (vI v :: vI i :: vR a :: st) T σ K ↔ (sx_kd T a = 21 ∧ 0 ≤ i ∧ i < sx_ln T a ∧ (v = 0 ∨ v = 1)) ∧ Rn mi (pc + 1) L st T (sx_up σ a i v) K := R_if (by simp only [sx_exec, hd, sx_len, sx_do, sx_astore, show ¬ (21 = 20) by decide, false_or, or_true, if_true])
theorem R_aald {i : Int} {a : Nat} (hd : decode (sx_cod mi) pc = .ok (.aaload, 1)) : Rn mi pc L (vI i :: vR a :: st) T σ K ↔ (sx_kd T a = 22 ∧ 0 ≤ i ∧ i < sx_ln T a) ∧ ∃ t, sx_rf T a i.toNat = some t ∧ Rn mi (pc + 1) L (vR t :: st) T σ K := by
  by_cases z : sx_kd T a = 22 ∧ 0 ≤ i ∧ i < sx_ln T a
  · cases hr : sx_rf T a i.toNat with
    | none =>
      rw [Rn_none (by simp only [sx_exec, hd, sx_len, sx_do, hr, or_true, if_true, if_pos z])]
      simp
    | some t =>
      rw [Rn_next (pc' := pc + 1) (L' := L) (st' := vR t :: st) (T' := T) (σ' := σ) (by simp only [sx_exec, hd, sx_len, sx_do, hr, or_true, if_true, if_pos z])]
      simp [z]
  · rw [Rn_none (by simp only [sx_exec, hd, sx_len, sx_do, or_true, if_true, if_neg z])]
    simp only [z, false_and]
theorem R_aast {i : Int} {a t : Nat} (hd : decode (sx_cod mi) pc = .ok (.aastore, 1)) : Rn mi pc L (vR t :: vI i :: vR a :: st) T σ K ↔ (sx_kd T a = 22 ∧ 0 ≤ i ∧ i < sx_ln T a ∧ sx_kd T t = 2) ∧ Rn mi (pc + 1) L st (sx_setR T a i.toNat t) σ K := R_if (by simp only [sx_exec, hd, sx_len, sx_do, or_true, if_true])
theorem R_alen {a : Nat} (hd : decode (sx_cod mi) pc = .ok (.arraylength, 1)) (h0 : mi ≠ 0) : Rn mi pc L (vR a :: st) T σ K ↔ (sx_kd T a = 20 ∨ sx_kd T a = 21) ∧ Rn mi (pc + 1) L (vI (sx_ln T a) :: st) T σ K := R_if (by simp only [sx_exec, hd, sx_len, sx_do, h0, false_and, and_false, or_false, or_true, if_true])
theorem R_alen0 {a : Nat} (hd : decode (sx_cod 0) pc = .ok (.arraylength, 1)) : Rn 0 pc L (vR a :: st) T σ K ↔ (sx_kd T a = 20 ∨ sx_kd T a = 21 ∨ (sx_kd T a = 23 ∧ a = 0)) ∧ Rn 0 (pc + 1) L (vI (sx_ln T a) :: st) T σ K := R_if (by simp only [sx_exec, hd, sx_len, sx_do, true_and, or_true, if_true])
theorem R_ret {v : Int} (hd : decode (sx_cod mi) pc = .ok (.ireturn, 1)) (hr : sx_rt mi = some .int) : Rn mi pc L [vI v] T σ K ↔ K (some (vI v)) T σ := Rn_ret (by simp only [sx_exec, hd, sx_len, sx_do, hr, or_true, if_true])
theorem R_retZ {v : Int} (hd : decode (sx_cod mi) pc = .ok (.ireturn, 1)) (hr : sx_rt mi = some .boolean) : Rn mi pc L [vI v] T σ K ↔ (v = 0 ∨ v = 1) ∧ K (some (vI v)) T σ := by
  by_cases z : v = 0 ∨ v = 1
  · rw [Rn_ret (r := some (vI v)) (by simp only [sx_exec, hd, sx_len, sx_do, hr, or_true, if_true, if_pos z])]
    simp [z]
  · rw [Rn_none (by simp only [sx_exec, hd, sx_len, sx_do, hr, or_true, if_true, if_neg z])]
    simp only [z, false_and]
theorem R_retV (hd : decode (sx_cod mi) pc = .ok (.return_, 1)) (hr : sx_rt mi = none) : Rn mi pc L [] T σ K ↔ K none T σ := Rn_ret (by simp only [sx_exec, hd, sx_len, sx_do, hr, or_true, if_true])
theorem R_call {cm n : Nat} {vs : List sxV} {L' : sxL} {c : Prop} [Decidable c] (h : sx_exec mi pc L (vs.reverse ++ st) T σ = if c then sx_call mi cm n (vs.reverse ++ st) else none) (hn : vs.length = n) (hf : sx_fits mi cm n = true) (hj : vs.all sx_nJ = true) (hL : sx_ent cm vs = L') : Rn mi pc L (vs.reverse ++ st) T σ K ↔ (c ∧ st.length ≤ 4) ∧ Rn cm 0 L' [] T σ (fun r T' σ' => Rn mi (pc + 3) L (sx_push r st) T' σ' K) := by
  have hn' : vs.reverse.length = n := by rw [List.length_reverse]; exact hn
  have ht : (vs.reverse ++ st).take n = vs.reverse := by rw [← hn', List.take_left]
  have hdp : (vs.reverse ++ st).drop n = st := by rw [← hn', List.drop_left]
  by_cases z : c ∧ st.length ≤ 4
  · rw [if_pos z.1, sx_call, if_pos ⟨hf, by simp; omega, by rw [hdp]; exact z.2, by rw [ht]; simpa using hj⟩, ht, hdp, List.reverse_reverse, hL] at h
    rw [Rn_call h]
    simp [z]
  · rw [Rn_none]
    · simp only [z, false_and]
    · rw [h]
      split
      · rename_i hc
        rw [sx_call, if_neg]
        rw [hdp]
        exact fun y => z ⟨hc, y.2.2.1⟩
      · rfl
theorem R_callV {cm n idx ci o : Nat} {vs : List sxV} {L' : sxL} (hd : decode (sx_cod mi) pc = .ok (.invokevirtual idx, 3)) (hl : (sx_lk (sx_oi mi) idx).map (fun r => (r.1, r.2.1, r.2.2.1)) = some (2, cm, n)) (hn : vs.length = n) (hf : sx_fits mi cm (n + 1) = true) (hj : vs.all sx_nJ = true) (hc : sx_ci cm = ci) (hL : sx_ent cm (vR o :: vs) = L') : Rn mi pc L (vs.reverse ++ vR o :: st) T σ K ↔ (sx_kd T o = ci ∧ st.length ≤ 4) ∧ Rn cm 0 L' [] T σ (fun r T' σ' => Rn mi (pc + 3) L (sx_push r st) T' σ' K) := by
  obtain ⟨ps, hl⟩ := lk_of hl
  have hn' : vs.reverse.length = n := by rw [List.length_reverse]; exact hn
  have hdp : (vs.reverse ++ vR o :: st).drop n = vR o :: st := by rw [← hn', List.drop_left]
  have e : vs.reverse ++ vR o :: st = (vR o :: vs).reverse ++ st := by simp
  have key : sx_exec mi pc L (vs.reverse ++ vR o :: st) T σ = if sx_kd T o = ci then sx_call mi cm (n + 1) (vs.reverse ++ vR o :: st) else none := by
    simp only [sx_exec, hd, sx_len, sx_do, sx_inv, hl, hdp, hc, or_true, if_true]
  rw [e] at key ⊢
  exact R_call key (by simp [hn]) hf (by simpa [sx_nJ] using hj) hL
theorem R_callS {cm n idx : Nat} {vs : List sxV} {L' : sxL} (hd : decode (sx_cod mi) pc = .ok (.invokestatic idx, 3)) (hl : (sx_lk (sx_oi mi) idx).map (fun r => (r.1, r.2.1, r.2.2.1)) = some (3, cm, n) ∨ (sx_lk (sx_oi mi) idx).map (fun r => (r.1, r.2.1, r.2.2.1)) = some (5, cm, n)) (hn : vs.length = n) (hf : sx_fits mi cm n = true) (hj : vs.all sx_nJ = true) (hL : sx_ent cm vs = L') : Rn mi pc L (vs.reverse ++ st) T σ K ↔ st.length ≤ 4 ∧ Rn cm 0 L' [] T σ (fun r T' σ' => Rn mi (pc + 3) L (sx_push r st) T' σ' K) := by
  have key : sx_exec mi pc L (vs.reverse ++ st) T σ = if True then sx_call mi cm n (vs.reverse ++ st) else none := by
    rcases hl with hl | hl
    · obtain ⟨ps, hl⟩ := lk_of hl
      simp only [sx_exec, hd, sx_len, sx_do, sx_inv, hl, or_true, if_true]
    · obtain ⟨ps, hl⟩ := lk_of hl
      simp only [sx_exec, hd, sx_len, sx_do, sx_inv, hl, or_true, if_true]
  rw [R_call key hn hf hj hL]
  simp
theorem R_callI {cm n idx o : Nat} {vs : List sxV} {L' : sxL} (hd : decode (sx_cod mi) pc = .ok (.invokespecial idx, 3)) (hl : (sx_lk (sx_oi mi) idx).map (fun r => (r.1, r.2.1, r.2.2.1)) = some (4, cm, n) ∨ (sx_lk (sx_oi mi) idx).map (fun r => (r.1, r.2.1, r.2.2.1)) = some (6, cm, n)) (hn : vs.length = n) (hf : sx_fits mi cm (n + 1) = true) (hj : vs.all sx_nJ = true) (hL : sx_ent cm (vR o :: vs) = L') : Rn mi pc L (vs.reverse ++ vR o :: st) T σ K ↔ st.length ≤ 4 ∧ Rn cm 0 L' [] T σ (fun r T' σ' => Rn mi (pc + 3) L (sx_push r st) T' σ' K) := by
  have hn' : vs.reverse.length = n := by rw [List.length_reverse]; exact hn
  have hdp : (vs.reverse ++ vR o :: st).drop n = vR o :: st := by rw [← hn', List.drop_left]
  have e : vs.reverse ++ vR o :: st = (vR o :: vs).reverse ++ st := by simp
  have key : sx_exec mi pc L (vs.reverse ++ vR o :: st) T σ = if True then sx_call mi cm (n + 1) (vs.reverse ++ vR o :: st) else none := by
    rcases hl with hl | hl
    · obtain ⟨ps, hl⟩ := lk_of hl
      simp only [sx_exec, hd, sx_len, sx_do, sx_inv, hl, hdp, or_true, if_true]
    · obtain ⟨ps, hl⟩ := lk_of hl
      simp only [sx_exec, hd, sx_len, sx_do, sx_inv, hl, hdp, or_true, if_true]
  rw [e] at key ⊢
  rw [R_call key (by simp [hn]) hf (by simpa [sx_nJ] using hj) hL]
  simp
theorem R_oinit {idx o : Nat} (hd : decode (sx_cod mi) pc = .ok (.invokespecial idx, 3)) (hl : (sx_lk (sx_oi mi) idx).map (fun r => (r.1, r.2.1, r.2.2.1)) = some (7, 0, 0)) (hf : 1 ≤ sx_fr mi) (hg : 20 ≤ sx_lo mi) : Rn mi pc L (vR o :: st) T σ K ↔ st.length ≤ 4 ∧ Rn mi (pc + 3) L st T σ K := by
  obtain ⟨ps, hl⟩ := lk_of hl
  exact R_if (by simp only [sx_exec, hd, sx_len, sx_do, sx_inv, hl, hf, hg, and_true, or_true, if_true])
theorem R_copy {idx a b : Nat} {n dp sp : Int} (hd : decode (sx_cod mi) pc = .ok (.invokestatic idx, 3)) (hl : (sx_lk (sx_oi mi) idx).map (fun r => (r.1, r.2.1, r.2.2.1)) = some (11, 0, 0)) (hf : 1 ≤ sx_fr mi) (hg : 60 ≤ sx_lo mi) : Rn mi pc L (vI n :: vI dp :: vR b :: vI sp :: vR a :: st) T σ K ↔ (sx_kd T a = 20 ∧ sx_kd T b = 20 ∧ 0 ≤ sp ∧ 0 ≤ dp ∧ 0 ≤ n ∧ sp + n ≤ sx_ln T a ∧ dp + n ≤ sx_ln T b ∧ st.length ≤ 4) ∧ Rn mi (pc + 3) L st T (sx_cpy σ a sp b dp n) K := by
  obtain ⟨ps, hl⟩ := lk_of hl
  exact R_if (by simp only [sx_exec, hd, sx_len, sx_do, sx_inv, hl, hf, hg, and_true, or_true, if_true])
theorem R_max {idx : Nat} {a b : Int} (hd : decode (sx_cod mi) pc = .ok (.invokestatic idx, 3)) (hl : (sx_lk (sx_oi mi) idx).map (fun r => (r.1, r.2.1, r.2.2.1)) = some (15, 0, 0)) (hf : 1 ≤ sx_fr mi) (hg : 30 ≤ sx_lo mi) : Rn mi pc L (vI b :: vI a :: st) T σ K ↔ st.length ≤ 4 ∧ Rn mi (pc + 3) L (vI (max a b) :: st) T σ K := by
  obtain ⟨ps, hl⟩ := lk_of hl
  exact R_if (by simp only [sx_exec, hd, sx_len, sx_do, sx_inv, hl, hf, hg, and_true, or_true, if_true])
theorem R_min {idx : Nat} {a b : Int} (hd : decode (sx_cod mi) pc = .ok (.invokestatic idx, 3)) (hl : (sx_lk (sx_oi mi) idx).map (fun r => (r.1, r.2.1, r.2.2.1)) = some (16, 0, 0)) (hf : 1 ≤ sx_fr mi) (hg : 30 ≤ sx_lo mi) : Rn mi pc L (vI b :: vI a :: st) T σ K ↔ st.length ≤ 4 ∧ Rn mi (pc + 3) L (vI (min a b) :: st) T σ K := by
  obtain ⟨ps, hl⟩ := lk_of hl
  exact R_if (by simp only [sx_exec, hd, sx_len, sx_do, sx_inv, hl, hf, hg, and_true, or_true, if_true])
theorem R_abs {idx : Nat} {a : Int} (hd : decode (sx_cod mi) pc = .ok (.invokestatic idx, 3)) (hl : (sx_lk (sx_oi mi) idx).map (fun r => (r.1, r.2.1, r.2.2.1)) = some (17, 0, 0)) (hf : 1 ≤ sx_fr mi) (hg : 30 ≤ sx_lo mi) : Rn mi pc L (vI a :: st) T σ K ↔ (st.length ≤ 4 ∧ inI (-a)) ∧ Rn mi (pc + 3) L (vI (if 0 ≤ a then a else -a) :: st) T σ K := by
  obtain ⟨ps, hl⟩ := lk_of hl
  exact R_if (by simp only [sx_exec, hd, sx_len, sx_do, sx_inv, hl, hf, hg, true_and, or_true, if_true])
theorem R_slen {idx a : Nat} (hd : decode (sx_cod mi) pc = .ok (.invokevirtual idx, 3)) (hl : (sx_lk (sx_oi mi) idx).map (fun r => (r.1, r.2.1, r.2.2.1)) = some (12, 0, 0)) (hf : 5 ≤ sx_fr mi) (hg : 120 ≤ sx_lo mi) : Rn mi pc L (vR a :: st) T σ K ↔ (1000001 ≤ a ∧ a < 1000008 ∧ st.length ≤ 4) ∧ Rn mi (pc + 3) L (vI ((sx_str (a - 1000001)).length : Int) :: st) T σ K := by
  obtain ⟨ps, hl⟩ := lk_of hl
  exact R_if (by simp only [sx_exec, hd, sx_len, sx_do, sx_inv, hl, hf, hg, and_true, or_true, if_true])
theorem R_schr {idx a : Nat} {i : Int} (hd : decode (sx_cod mi) pc = .ok (.invokevirtual idx, 3)) (hl : (sx_lk (sx_oi mi) idx).map (fun r => (r.1, r.2.1, r.2.2.1)) = some (13, 0, 0)) (hf : 5 ≤ sx_fr mi) (hg : 120 ≤ sx_lo mi) : Rn mi pc L (vI i :: vR a :: st) T σ K ↔ (1000001 ≤ a ∧ a < 1000008 ∧ 0 ≤ i ∧ i < ((sx_str (a - 1000001)).length : Int) ∧ st.length ≤ 4) ∧ Rn mi (pc + 3) L (vI ((sx_str (a - 1000001)).getD i.toNat 0) :: st) T σ K := by
  obtain ⟨ps, hl⟩ := lk_of hl
  exact R_if (by simp only [sx_exec, hd, sx_len, sx_do, sx_inv, hl, hf, hg, and_true, or_true, if_true])
theorem R_V {cm n idx ci o mx : Nat} {vs : List sxV} (hd : decode (sx_cod mi) pc = .ok (.invokevirtual idx, 3)) (hl : (sx_lk (sx_oi mi) idx).map (fun r => (r.1, r.2.1, r.2.2.1)) = some (2, cm, n)) (hn : vs.length = n) (hf : sx_fits mi cm (n + 1) = true) (hj : vs.all sx_nJ = true) (hc : sx_ci cm = ci) (hm : sx_mx cm = mx) : Rn mi pc L (vs.reverse ++ vR o :: st) T σ K ↔ (sx_kd T o = ci ∧ st.length ≤ 4) ∧ Rn cm 0 ((vR o :: vs).map some ++ List.replicate (mx - (vR o :: vs).length) none) [] T σ (fun r T' σ' => Rn mi (pc + 3) L (sx_push r st) T' σ' K) := R_callV hd hl hn hf hj hc (by unfold sx_ent; rw [hm])
theorem R_S {cm n idx mx : Nat} {vs : List sxV} (hd : decode (sx_cod mi) pc = .ok (.invokestatic idx, 3)) (hl : (sx_lk (sx_oi mi) idx).map (fun r => (r.1, r.2.1, r.2.2.1)) = some (3, cm, n) ∨ (sx_lk (sx_oi mi) idx).map (fun r => (r.1, r.2.1, r.2.2.1)) = some (5, cm, n)) (hn : vs.length = n) (hf : sx_fits mi cm n = true) (hj : vs.all sx_nJ = true) (hm : sx_mx cm = mx) : Rn mi pc L (vs.reverse ++ st) T σ K ↔ st.length ≤ 4 ∧ Rn cm 0 (vs.map some ++ List.replicate (mx - vs.length) none) [] T σ (fun r T' σ' => Rn mi (pc + 3) L (sx_push r st) T' σ' K) := R_callS hd hl hn hf hj (by unfold sx_ent; rw [hm])
theorem R_I {cm n idx o mx : Nat} {vs : List sxV} (hd : decode (sx_cod mi) pc = .ok (.invokespecial idx, 3)) (hl : (sx_lk (sx_oi mi) idx).map (fun r => (r.1, r.2.1, r.2.2.1)) = some (4, cm, n) ∨ (sx_lk (sx_oi mi) idx).map (fun r => (r.1, r.2.1, r.2.2.1)) = some (6, cm, n)) (hn : vs.length = n) (hf : sx_fits mi cm (n + 1) = true) (hj : vs.all sx_nJ = true) (hm : sx_mx cm = mx) : Rn mi pc L (vs.reverse ++ vR o :: st) T σ K ↔ st.length ≤ 4 ∧ Rn cm 0 ((vR o :: vs).map some ++ List.replicate (mx - (vR o :: vs).length) none) [] T σ (fun r T' σ' => Rn mi (pc + 3) L (sx_push r st) T' σ' K) := R_callI hd hl hn hf hj (by unfold sx_ent; rw [hm])
end RU
