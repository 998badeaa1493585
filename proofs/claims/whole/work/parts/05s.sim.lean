/-! a plain machine over whole numbers: values, shapes of cells, contents; one step of it; runs -/
abbrev sxV : Type := Int ⊕ (Int ⊕ Nat)
abbrev sxT : Type := List (Nat × Nat × List (Option Nat))
abbrev sxS : Type := Nat → Int → Int
abbrev sxL : Type := List (Option (Int ⊕ (Int ⊕ Nat)))
abbrev vI (i : Int) : sxV := Sum.inl i
abbrev vJ (i : Int) : sxV := Sum.inr (Sum.inl i)
abbrev vR (k : Nat) : sxV := Sum.inr (Sum.inr k)
abbrev inI (x : Int) : Prop := -2147483648 ≤ x ∧ x ≤ 2147483647
abbrev inJ (x : Int) : Prop := -9223372036854775808 ≤ x ∧ x ≤ 9223372036854775807
def sx_kd (T : sxT) (k : Nat) : Nat := match T[k]? with
  | some sh => sh.1
  | none => 999
def sx_ln (T : sxT) (k : Nat) : Int := match T[k]? with
  | some sh => (sh.2.1 : Int)
  | none => 0
def sx_rf (T : sxT) (k j : Nat) : Option Nat := match T[k]? with
  | some sh => sh.2.2.getD j none
  | none => none
def sx_up (σ : sxS) (k : Nat) (i v : Int) : sxS := fun k' i' => if k' = k ∧ i' = i then v else σ k' i'
def sx_cpy (σ : sxS) (a : Nat) (sp : Int) (b : Nat) (dp n : Int) : sxS := fun k' i' => if k' = b ∧ dp ≤ i' ∧ i' < dp + n then σ a (sp + (i' - dp)) else σ k' i'
def sx_and (a b : Int) : Int := (Int32.ofInt a &&& Int32.ofInt b).toInt
def sx_or (a b : Int) : Int := (Int32.ofInt a ||| Int32.ofInt b).toInt
def sx_xor (a b : Int) : Int := (Int32.ofInt a ^^^ Int32.ofInt b).toInt
def sx_land (a b : Int) : Int := (Int64.ofInt a &&& Int64.ofInt b).toInt
def sx_ty (ci k : Nat) : FieldType := (sx_tyl.getD ci (fun _ => .int)) k
def sx_fin (ci k : Nat) : Bool := match sx_cls[ci]? with
  | some q => (q.2.1 k).2.2.2
  | none => true
/-- 0 a whole number, 1 a long one, 2 a truth value, 3 a reference -/
def sx_fk (ci k : Nat) : Nat := match sx_ty ci k with
  | .int => 0
  | .long => 1
  | .boolean => 2
  | .object _ => 3
  | .array _ => 3
  | _ => 4
def sx_strs : List (List Int) := [[115, 101, 116], [98, 121], [115, 117, 109], [109, 111, 115, 116], [98, 105, 116, 115], [112, 111, 105, 110, 116], [97, 116]]
def sx_str (j : Nat) : List Int := sx_strs.getD j []
abbrev sxA : Type := (Nat × sxL × List sxV × sxT × sxS) ⊕ ((Nat × sxL × List sxV) ⊕ Option sxV)
abbrev sx_go (pc : Nat) (L : sxL) (st : List sxV) (T : sxT) (σ : sxS) : Option sxA := some (Sum.inl (pc, L, st, T, σ))
def sx_jmp (pc : Nat) (off : Int) (L : sxL) (st : List sxV) (T : sxT) (σ : sxS) : Option sxA := if 0 ≤ (pc : Int) + off then sx_go ((pc : Int) + off).toNat L st T σ else none
def sx_cmp (c : ClassFile.Cond) (a b : Int) : Bool := match c with
  | .eq => decide (a = b)
  | .ne => decide (a ≠ b)
  | .lt => decide (a < b)
  | .ge => decide (b ≤ a)
  | .gt => decide (b < a)
  | .le => decide (a ≤ b)
def sx_ent (mi : Nat) (vs : List sxV) : sxL := vs.map some ++ List.replicate (sx_mx mi - vs.length) none
def sx_nJ (v : sxV) : Bool := match v with
  | .inr (.inl _) => false
  | _ => true
/-- whether a method may call another: frames and locals -/
def sx_fits (mi cm n : Nat) : Bool := decide (sx_fr cm + 1 ≤ sx_fr mi) && decide (8 + (sx_mx cm + 11) + sx_lo cm ≤ sx_lo mi) && decide (n ≤ sx_mx cm)
/-- a call with n values, of which the lowest is a receiver where there is one -/
def sx_call (mi cm n : Nat) (st : List sxV) : Option sxA :=
  if sx_fits mi cm n = true ∧ n ≤ st.length ∧ (st.drop n).length ≤ 4 ∧ (st.take n).all sx_nJ = true then some (Sum.inr (Sum.inl (cm, sx_ent cm (st.take n).reverse, st.drop n))) else none
def sx_ldI (pc i : Nat) (L : sxL) (st : List sxV) (T : sxT) (σ : sxS) : Option sxA := match L[i]? with
  | some (some (.inl x)) => sx_go pc L (vI x :: st) T σ
  | _ => none
def sx_ldA (pc i : Nat) (L : sxL) (st : List sxV) (T : sxT) (σ : sxS) : Option sxA := match L[i]? with
  | some (some (.inr (.inr k))) => sx_go pc L (vR k :: st) T σ
  | _ => none
def sx_stI (pc i : Nat) (L : sxL) (st : List sxV) (T : sxT) (σ : sxS) : Option sxA := match st with
  | .inl x :: st' => if i < L.length then sx_go pc (L.set i (some (vI x))) st' T σ else none
  | _ => none
def sx_stA (pc i : Nat) (L : sxL) (st : List sxV) (T : sxT) (σ : sxS) : Option sxA := match st with
  | .inr (.inr k) :: st' => if i < L.length then sx_go pc (L.set i (some (vR k))) st' T σ else none
  | _ => none
def sx_bin (pc : Nat) (f : Int → Int → Option Int) (L : sxL) (st : List sxV) (T : sxT) (σ : sxS) : Option sxA := match st with
  | .inl b :: .inl a :: st' => (match f a b with
    | some v => if inI v then sx_go (pc + 1) L (vI v :: st') T σ else none
    | none => none)
  | _ => none
def sx_binJ (pc : Nat) (f : Int → Int → Option Int) (L : sxL) (st : List sxV) (T : sxT) (σ : sxS) : Option sxA := match st with
  | .inr (.inl b) :: .inr (.inl a) :: st' => (match f a b with
    | some v => if inJ v then sx_go (pc + 1) L (vJ v :: st') T σ else none
    | none => none)
  | _ => none
def sx_getf (mi pc idx : Nat) (L : sxL) (st : List sxV) (T : sxT) (σ : sxS) : Option sxA := match sx_lk (sx_oi mi) idx, st with
  | some (0, ci, k, _), .inr (.inr a) :: st' => if sx_kd T a = ci then (match sx_fk ci k with
    | 0 => sx_go (pc + 3) L (vI (σ a k) :: st') T σ
    | 1 => sx_go (pc + 3) L (vJ (σ a k) :: st') T σ
    | 2 => sx_go (pc + 3) L (vI (σ a k) :: st') T σ
    | 3 => (match sx_rf T a k with
      | some t => sx_go (pc + 3) L (vR t :: st') T σ
      | none => none)
    | _ => none) else none
  | _, _ => none
def sx_setR (T : sxT) (a k t : Nat) : sxT := T.modify a (fun sh => (sh.1, sh.2.1, sh.2.2.set k (some t)))
def sx_putf (mi pc idx : Nat) (L : sxL) (st : List sxV) (T : sxT) (σ : sxS) : Option sxA := match sx_lk (sx_oi mi) idx, st with
  | some (0, ci, k, _), .inl v :: .inr (.inr a) :: st' => if sx_kd T a = ci ∧ (sx_fk ci k = 0 ∨ (sx_fk ci k = 2 ∧ (v = 0 ∨ v = 1))) ∧ (sx_fin ci k = false ∨ (sx_fin ci k = true ∧ (sx_y mi).name = "<init>" ∧ sx_ci mi = ci)) then sx_go (pc + 3) L st' T (sx_up σ a k v) else none
  | some (0, ci, k, _), .inr (.inl v) :: .inr (.inr a) :: st' => if sx_kd T a = ci ∧ sx_fk ci k = 1 ∧ sx_fin ci k = false ∧ inI v then sx_go (pc + 3) L st' T (sx_up σ a k v) else none
  | some (0, ci, k, _), .inr (.inr t) :: .inr (.inr a) :: st' => if sx_kd T a = ci ∧ sx_fk ci k = 3 ∧ sx_fin ci k = true ∧ (sx_y mi).name = "<init>" ∧ sx_ci mi = ci ∧ t < T.length then sx_go (pc + 3) L st' (sx_setR T a k t) σ else none
  | _, _ => none
def sx_newo (mi pc idx : Nat) (L : sxL) (st : List sxV) (T : sxT) (σ : sxS) : Option sxA := match sx_lk (sx_oi mi) idx with
  | some (1, ci, _, _) => (match sx_cls[ci]? with
    | some q => if T.length < 1000000 then sx_go (pc + 3) L (vR T.length :: st) (T ++ [(ci, q.2.2, List.replicate q.2.2 none)]) σ else none
    | none => none)
  | _ => none
def sx_aload (mi pc : Nat) (kd : Nat) (L : sxL) (st : List sxV) (T : sxT) (σ : sxS) : Option sxA := match st with
  | .inl i :: .inr (.inr a) :: st' => if (sx_kd T a = kd ∨ (sx_kd T a = 23 ∧ kd = 20 ∧ mi = 0 ∧ a = 0)) ∧ 0 ≤ i ∧ i < sx_ln T a then sx_go (pc + 1) L (vI (σ a i) :: st') T σ else none
  | _ => none
def sx_astore (pc : Nat) (kd : Nat) (L : sxL) (st : List sxV) (T : sxT) (σ : sxS) : Option sxA := match st with
  | .inl v :: .inl i :: .inr (.inr a) :: st' => if sx_kd T a = kd ∧ 0 ≤ i ∧ i < sx_ln T a ∧ (kd = 20 ∨ v = 0 ∨ v = 1) then sx_go (pc + 1) L st' T (sx_up σ a i v) else none
  | _ => none
def sx_newa (pc : Nat) (kd : Nat) (L : sxL) (st : List sxV) (T : sxT) (σ : sxS) : Option sxA := match st with
  | .inl n :: st' => if 0 ≤ n ∧ n ≤ 100000 ∧ T.length < 1000000 then sx_go pc L (vR T.length :: st') (T ++ [(kd, n.toNat, List.replicate (if kd = 22 then n.toNat else 0) none)]) σ else none
  | _ => none
def sx_inv (mi pc idx : Nat) (vi : Nat) (L : sxL) (st : List sxV) (T : sxT) (σ : sxS) : Option sxA := match sx_lk (sx_oi mi) idx with
  | some (2, cm, n, _) => if vi = 0 then (match st.drop n with
      | .inr (.inr a) :: _ => if sx_kd T a = sx_ci cm then sx_call mi cm (n + 1) st else none
      | _ => none) else none
  | some (3, cm, n, _) => if vi = 1 then sx_call mi cm n st else none
  | some (5, cm, n, _) => if vi = 1 then sx_call mi cm n st else none
  | some (4, cm, n, _) => if vi = 2 then (match st.drop n with
      | .inr (.inr _) :: _ => sx_call mi cm (n + 1) st
      | _ => none) else none
  | some (6, cm, n, _) => if vi = 2 then (match st.drop n with
      | .inr (.inr _) :: _ => sx_call mi cm (n + 1) st
      | _ => none) else none
  | some (7, _, _, _) => if vi = 2 then (match st with
      | .inr (.inr _) :: st' => if st'.length ≤ 4 ∧ 1 ≤ sx_fr mi ∧ 20 ≤ sx_lo mi then sx_go (pc + 3) L st' T σ else none
      | _ => none) else none
  | some (11, _, _, _) => if vi = 1 then (match st with
      | .inl n :: .inl dp :: .inr (.inr b) :: .inl sp :: .inr (.inr a) :: st' => if sx_kd T a = 20 ∧ sx_kd T b = 20 ∧ 0 ≤ sp ∧ 0 ≤ dp ∧ 0 ≤ n ∧ sp + n ≤ sx_ln T a ∧ dp + n ≤ sx_ln T b ∧ st'.length ≤ 4 ∧ 1 ≤ sx_fr mi ∧ 60 ≤ sx_lo mi then sx_go (pc + 3) L st' T (sx_cpy σ a sp b dp n) else none
      | _ => none) else none
  | some (15, _, _, _) => if vi = 1 then (match st with
      | .inl b :: .inl a :: st' => if st'.length ≤ 4 ∧ 1 ≤ sx_fr mi ∧ 30 ≤ sx_lo mi then sx_go (pc + 3) L (vI (max a b) :: st') T σ else none
      | _ => none) else none
  | some (16, _, _, _) => if vi = 1 then (match st with
      | .inl b :: .inl a :: st' => if st'.length ≤ 4 ∧ 1 ≤ sx_fr mi ∧ 30 ≤ sx_lo mi then sx_go (pc + 3) L (vI (min a b) :: st') T σ else none
      | _ => none) else none
  | some (17, _, _, _) => if vi = 1 then (match st with
      | .inl a :: st' => if st'.length ≤ 4 ∧ 1 ≤ sx_fr mi ∧ 30 ≤ sx_lo mi ∧ inI (-a) then sx_go (pc + 3) L (vI (if 0 ≤ a then a else -a) :: st') T σ else none
      | _ => none) else none
  | some (12, _, _, _) => if vi = 0 then (match st with
      | .inr (.inr a) :: st' => if 1000001 ≤ a ∧ a < 1000008 ∧ st'.length ≤ 4 ∧ 5 ≤ sx_fr mi ∧ 120 ≤ sx_lo mi then sx_go (pc + 3) L (vI ((sx_str (a - 1000001)).length : Int) :: st') T σ else none
      | _ => none) else none
  | some (13, _, _, _) => if vi = 0 then (match st with
      | .inl i :: .inr (.inr a) :: st' => if 1000001 ≤ a ∧ a < 1000008 ∧ 0 ≤ i ∧ i < ((sx_str (a - 1000001)).length : Int) ∧ st'.length ≤ 4 ∧ 5 ≤ sx_fr mi ∧ 120 ≤ sx_lo mi then sx_go (pc + 3) L (vI ((sx_str (a - 1000001)).getD i.toNat 0) :: st') T σ else none
      | _ => none) else none
  | _ => none
def sx_do (mi pc : Nat) (L : sxL) (T : sxT) (σ : sxS) (i : Instr) (st : List sxV) : Option sxA := match i with
  | .iconst n => if inI n then sx_go (pc + 1) L (vI n :: st) T σ else none
  | .bipush n => sx_go (pc + 2) L (vI (Int8.ofInt n).toInt :: st) T σ
  | .sipush n => sx_go (pc + 3) L (vI (Int16.ofInt n).toInt :: st) T σ
  | .lconst n => sx_go (pc + 1) L (vJ ((n : Nat) : Int) :: st) T σ
  | .ldc idx => (match sx_lk (sx_oi mi) idx with
    | some (8, _, v, _) => if inI v then sx_go (pc + 2) L (vI v :: st) T σ else none
    | some (10, j, _, _) => if j < 7 then sx_go (pc + 2) L (vR (1000001 + j) :: st) T σ else none
    | _ => none)
  | .ldc_w idx => (match sx_lk (sx_oi mi) idx with
    | some (8, _, v, _) => if inI v then sx_go (pc + 3) L (vI v :: st) T σ else none
    | _ => none)
  | .ldc2_w idx => (match sx_lk (sx_oi mi) idx with
    | some (9, _, v, _) => if inJ v then sx_go (pc + 3) L (vJ v :: st) T σ else none
    | _ => none)
  | .iload_n n => sx_ldI (pc + 1) n L st T σ
  | .iload n => sx_ldI (pc + 2) n L st T σ
  | .aload_n n => sx_ldA (pc + 1) n L st T σ
  | .aload n => sx_ldA (pc + 2) n L st T σ
  | .istore_n n => sx_stI (pc + 1) n L st T σ
  | .istore n => sx_stI (pc + 2) n L st T σ
  | .astore_n n => sx_stA (pc + 1) n L st T σ
  | .astore n => sx_stA (pc + 2) n L st T σ
  | .iinc n d => (match L[n]? with
    | some (some (.inl x)) => if inI (x + d) then sx_go (pc + 3) (L.set n (some (vI (x + d)))) st T σ else none
    | _ => none)
  | .iadd => sx_bin pc (fun a b => some (a + b)) L st T σ
  | .isub => sx_bin pc (fun a b => some (a - b)) L st T σ
  | .imul => sx_bin pc (fun a b => some (a * b)) L st T σ
  | .idiv => sx_bin pc (fun a b => if 0 < b then some (a.tdiv b) else none) L st T σ
  | .irem => sx_bin pc (fun a b => if 0 < b then some (a.tmod b) else none) L st T σ
  | .ishl => sx_bin pc (fun a b => if 0 ≤ b ∧ b ≤ 31 then some (a * 2 ^ b.toNat) else none) L st T σ
  | .ishr => sx_bin pc (fun a b => if 0 ≤ b ∧ b ≤ 31 then some (a / 2 ^ b.toNat) else none) L st T σ
  | .iushr => sx_bin pc (fun a b => if 0 ≤ b ∧ b ≤ 31 ∧ 0 ≤ a then some (a / 2 ^ b.toNat) else none) L st T σ
  | .iand => sx_bin pc (fun a b => some (sx_and a b)) L st T σ
  | .ior => sx_bin pc (fun a b => some (sx_or a b)) L st T σ
  | .ixor => sx_bin pc (fun a b => some (sx_xor a b)) L st T σ
  | .ineg => (match st with
    | .inl a :: st' => if inI (-a) then sx_go (pc + 1) L (vI (-a) :: st') T σ else none
    | _ => none)
  | .i2l => (match st with
    | .inl a :: st' => sx_go (pc + 1) L (vJ a :: st') T σ
    | _ => none)
  | .l2i => (match st with
    | .inr (.inl a) :: st' => if inI a then sx_go (pc + 1) L (vI a :: st') T σ else none
    | _ => none)
  | .ladd => sx_binJ pc (fun a b => some (a + b)) L st T σ
  | .lmul => sx_binJ pc (fun a b => some (a * b)) L st T σ
  | .lrem => sx_binJ pc (fun a b => if 0 < b then some (a.tmod b) else none) L st T σ
  | .land => sx_binJ pc (fun a b => some (sx_land a b)) L st T σ
  | .lshr => (match st with
    | .inl b :: .inr (.inl a) :: st' => if 0 ≤ b ∧ b ≤ 31 then sx_go (pc + 1) L (vJ (a / 2 ^ b.toNat) :: st') T σ else none
    | _ => none)
  | .dup => (match st with
    | v :: st' => if sx_nJ v = true then sx_go (pc + 1) L (v :: v :: st') T σ else none
    | _ => none)
  | .dup2 => (match st with
    | v :: w :: st' => if sx_nJ v = true ∧ sx_nJ w = true then sx_go (pc + 1) L (v :: w :: v :: w :: st') T σ else none
    | _ => none)
  | .pop => (match st with
    | v :: st' => if sx_nJ v = true then sx_go (pc + 1) L st' T σ else none
    | _ => none)
  | .goto off => sx_jmp pc off L st T σ
  | .if_icmp c off => (match st with
    | .inl b :: .inl a :: st' => if 0 ≤ (pc : Int) + off then sx_go (if sx_cmp c a b = true then ((pc : Int) + off).toNat else pc + 3) L st' T σ else none
    | _ => none)
  | .ifCond c off => (match st with
    | .inl a :: st' => if 0 ≤ (pc : Int) + off then sx_go (if sx_cmp c a 0 = true then ((pc : Int) + off).toNat else pc + 3) L st' T σ else none
    | _ => none)
  | .tableswitch d lo hi offs => (match st with
    | .inl a :: st' => if a < lo ∨ hi < a then sx_jmp pc d L st' T σ else (match offs[(a - lo).toNat]? with
      | some o => sx_jmp pc o L st' T σ
      | none => none)
    | _ => none)
  | .lookupswitch d ps => (match st with
    | .inl a :: st' => if (ps.toList.zip (ps.toList.drop 1)).all (fun q => q.1.1 < q.2.1) = true then sx_jmp pc (Op.lookupswitch.offset ps.toList d a) L st' T σ else none
    | _ => none)
  | .getfield idx => sx_getf mi pc idx L st T σ
  | .putfield idx => sx_putf mi pc idx L st T σ
  | .new idx => sx_newo mi pc idx L st T σ
  | .newarray .int => sx_newa (pc + 2) 20 L st T σ
  | .newarray .boolean => sx_newa (pc + 2) 21 L st T σ
  | .anewarray idx => (match sx_lk (sx_oi mi) idx with
    | some (1, 2, 1, _) => sx_newa (pc + 3) 22 L st T σ
    | _ => none)
  | .iaload => sx_aload mi pc 20 L st T σ
  | .baload => sx_aload mi pc 21 L st T σ
  | .iastore => sx_astore pc 20 L st T σ
  | .bastore => sx_astore pc 21 L st T σ
  | .aaload => (match st with
    | .inl i :: .inr (.inr a) :: st' => if sx_kd T a = 22 ∧ 0 ≤ i ∧ i < sx_ln T a then (match sx_rf T a i.toNat with
      | some t => sx_go (pc + 1) L (vR t :: st') T σ
      | none => none) else none
    | _ => none)
  | .aastore => (match st with
    | .inr (.inr t) :: .inl i :: .inr (.inr a) :: st' => if sx_kd T a = 22 ∧ 0 ≤ i ∧ i < sx_ln T a ∧ sx_kd T t = 2 then sx_go (pc + 1) L st' (sx_setR T a i.toNat t) σ else none
    | _ => none)
  | .arraylength => (match st with
    | .inr (.inr a) :: st' => if sx_kd T a = 20 ∨ sx_kd T a = 21 ∨ (sx_kd T a = 23 ∧ mi = 0 ∧ a = 0) then sx_go (pc + 1) L (vI (sx_ln T a) :: st') T σ else none
    | _ => none)
  | .invokevirtual idx => sx_inv mi pc idx 0 L st T σ
  | .invokestatic idx => sx_inv mi pc idx 1 L st T σ
  | .invokespecial idx => sx_inv mi pc idx 2 L st T σ
  | .ireturn => (match st with
    | [.inl v] => (match sx_rt mi with
      | some .int => some (Sum.inr (Sum.inr (some (vI v))))
      | some .boolean => if v = 0 ∨ v = 1 then some (Sum.inr (Sum.inr (some (vI v)))) else none
      | _ => none)
    | _ => none)
  | .return_ => (match st with
    | [] => (match sx_rt mi with
      | none => some (Sum.inr (Sum.inr none))
      | _ => none)
    | _ => none)
  | _ => none
def sx_len (i : Instr) : Nat := match i with
  | .bipush _ | .ldc _ | .iload _ | .aload _ | .istore _ | .astore _ | .newarray _ => 2
  | .sipush _ | .ldc_w _ | .ldc2_w _ | .iinc _ _ | .goto _ | .if_icmp _ _ | .ifCond _ _ | .getfield _ | .putfield _ | .new _ | .anewarray _ | .invokevirtual _ | .invokestatic _ | .invokespecial _ => 3
  | .tableswitch _ _ _ _ | .lookupswitch _ _ => 0
  | _ => 1
def sx_exec (mi pc : Nat) (L : sxL) (st : List sxV) (T : sxT) (σ : sxS) : Option sxA := match decode (sx_cod mi) pc with
  | .error _ => none
  | .ok (i, len) => if sx_len i = 0 ∨ len = sx_len i then sx_do mi pc L T σ i st else none
def sx_push (r : Option sxV) (st : List sxV) : List sxV := match r with
  | some v => v :: st
  | none => st
def sx_sim : Nat → Nat → Nat → sxL → List sxV → sxT → sxS → Option (Option sxV × sxT × sxS)
  | 0, _, _, _, _, _, _ => none
  | n + 1, mi, pc, L, st, T, σ => match sx_exec mi pc L st T σ with
    | none => none
    | some (.inl q) => sx_sim n mi q.1 q.2.1 q.2.2.1 q.2.2.2.1 q.2.2.2.2
    | some (.inr (.inl q)) => (match sx_sim n q.1 0 q.2.1 [] T σ with
      | none => none
      | some u => sx_sim n mi (pc + 3) L (sx_push u.1 q.2.2) u.2.1 u.2.2)
    | some (.inr (.inr r)) => some (r, T, σ)
theorem sx_mono : ∀ (n mi pc : Nat) (L : sxL) (st : List sxV) (T : sxT) (σ : sxS) (u : Option sxV × sxT × sxS), sx_sim n mi pc L st T σ = some u → sx_sim (n + 1) mi pc L st T σ = some u := by
  intro n
  induction n with
  | zero => intro mi pc L st T σ u h; simp [sx_sim] at h
  | succ n ih =>
    intro mi pc L st T σ u h
    rw [sx_sim] at h ⊢
    split at h
    · cases h
    · exact ih _ _ _ _ _ _ _ h
    · split at h
      · cases h
      · rename_i w hw
        rw [ih _ _ _ _ _ _ _ hw]
        exact ih _ _ _ _ _ _ _ h
    · exact h
theorem sx_mono_le {n k mi pc : Nat} {L : sxL} {st : List sxV} {T : sxT} {σ : sxS} {u : Option sxV × sxT × sxS} (h : sx_sim n mi pc L st T σ = some u) (hk : n ≤ k) : sx_sim k mi pc L st T σ = some u := by
  induction hk with
  | refl => exact h
  | step _ ih => exact sx_mono _ _ _ _ _ _ _ _ ih
def Rn (mi pc : Nat) (L : sxL) (st : List sxV) (T : sxT) (σ : sxS) (K : Option sxV → sxT → sxS → Prop) : Prop := ∃ n r T' σ', sx_sim n mi pc L st T σ = some (r, T', σ') ∧ K r T' σ'
section RN
variable {mi pc : Nat} {L : sxL} {st : List sxV} {T : sxT} {σ : sxS} {K : Option sxV → sxT → sxS → Prop}
theorem Rn_next {pc' : Nat} {L' : sxL} {st' : List sxV} {T' : sxT} {σ' : sxS} (h : sx_exec mi pc L st T σ = some (.inl (pc', L', st', T', σ'))) : Rn mi pc L st T σ K ↔ Rn mi pc' L' st' T' σ' K := by
  constructor
  · rintro ⟨n, r, T1, σ1, h1, h2⟩
    cases n with
    | zero => simp [sx_sim] at h1
    | succ n =>
      rw [sx_sim, h] at h1
      exact ⟨n, r, T1, σ1, h1, h2⟩
  · rintro ⟨n, r, T1, σ1, h1, h2⟩
    exact ⟨n + 1, r, T1, σ1, by rw [sx_sim, h]; exact h1, h2⟩
theorem Rn_none (h : sx_exec mi pc L st T σ = none) : Rn mi pc L st T σ K ↔ False := by
  constructor
  · rintro ⟨n, r, T1, σ1, h1, h2⟩
    cases n with
    | zero => simp [sx_sim] at h1
    | succ n => rw [sx_sim, h] at h1; cases h1
  · exact False.elim
theorem Rn_ret {r : Option sxV} (h : sx_exec mi pc L st T σ = some (.inr (.inr r))) : Rn mi pc L st T σ K ↔ K r T σ := by
  constructor
  · rintro ⟨n, r1, T1, σ1, h1, h2⟩
    cases n with
    | zero => simp [sx_sim] at h1
    | succ n =>
      rw [sx_sim, h] at h1
      cases h1
      exact h2
  · intro h2
    exact ⟨1, r, T, σ, by rw [sx_sim, h], h2⟩
theorem Rn_call {cm : Nat} {L' : sxL} {st' : List sxV} (h : sx_exec mi pc L st T σ = some (.inr (.inl (cm, L', st')))) : Rn mi pc L st T σ K ↔ Rn cm 0 L' [] T σ (fun r T' σ' => Rn mi (pc + 3) L (sx_push r st') T' σ' K) := by
  constructor
  · rintro ⟨n, r, T1, σ1, h1, h2⟩
    cases n with
    | zero => simp [sx_sim] at h1
    | succ n =>
      rw [sx_sim, h] at h1
      simp only at h1
      split at h1
      · cases h1
      · rename_i u hu
        exact ⟨n, u.1, u.2.1, u.2.2, hu, n, r, T1, σ1, h1, h2⟩
  · rintro ⟨n, r, T1, σ1, h1, k, r2, T2, σ2, h2, h3⟩
    refine ⟨(n + k) + 1, r2, T2, σ2, ?_, h3⟩
    rw [sx_sim, h]
    simp only
    rw [sx_mono_le h1 (Nat.le_add_right n k)]
    exact sx_mono_le h2 (Nat.le_add_left k n)
theorem Rn_det {r : Option sxV} {T' : sxT} {σ' : sxS} {K' : Option sxV → sxT → sxS → Prop} (h : Rn mi pc L st T σ (fun r1 T1 σ1 => r1 = r ∧ T1 = T' ∧ σ1 = σ')) : Rn mi pc L st T σ K' ↔ K' r T' σ' := by
  obtain ⟨n, r1, T1, σ1, h1, rfl, rfl, rfl⟩ := h
  constructor
  · rintro ⟨k, r2, T2, σ2, h2, h3⟩
    have e1 := sx_mono_le h1 (Nat.le_add_right n k)
    have e2 := sx_mono_le h2 (Nat.le_add_left k n)
    rw [e1] at e2
    cases e2
    exact h3
  · intro h3
    exact ⟨n, _, _, _, h1, h3⟩
theorem Rn_imp {K' : Option sxV → sxT → sxS → Prop} (h : Rn mi pc L st T σ K) (hk : ∀ r T' σ', K r T' σ' → K' r T' σ') : Rn mi pc L st T σ K' := by
  obtain ⟨n, r, T', σ', h1, h2⟩ := h
  exact ⟨n, r, T', σ', h1, hk _ _ _ h2⟩
end RN
