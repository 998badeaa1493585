/-! the data is the tables': decided row by row -/
def sx_at (p : Nat) (w : Cond) : Bool := decide (lw_tbl[p]? = some w)
theorem sx_at_mem {p : Nat} {w : Cond} (h : sx_at p w = true) : w ∈ lw_tbl := List.mem_of_getElem? (of_decide_eq_true h)
def sx_mtok (r : MethodName × ByteArray × Nat × Option FieldType × Nat × Nat × Nat × Nat × Nat × Nat) : Bool :=
  sx_at r.2.2.2.2.2.2.2.2.2 (.initialized r.1.cls) && decide (r.1.cls = sx_ow r.2.2.2.2.1) && plainName r.1.cls && decide (r.1.cls ≠ "java/lang/invoke/MethodHandle") && decide (r.1.cls ≠ "java/lang/invoke/VarHandle") &&
  (decide (r.2.2.2.2.2.2.2.1 = 99) || decide ((sx_cls[r.2.2.2.2.2.2.2.1]?).map (fun q => q.1) = some r.1.cls))
def sx_np (cm n : Nat) : Bool := decide ((parseMethodDescriptor (sx_y cm).desc).map (fun d => d.parameters.length) = some n)
def sx_txt : List String := ["set", "by", "sum", "most", "bits", "point", "at"]
def sx_lkok (oi : Nat) (e : Nat × Nat × Nat × Nat × List Nat) : Bool := match e with
  | (idx, 0, ci, k, [p]) => (match sx_cls[ci]? with
    | some q => decide (k < q.2.2) && sx_at p (.fieldLink (sx_ow oi) idx (q.2.1 k).1 (q.2.1 k).2.1 (q.2.1 k).2.2.1) && decide ((q.2.1 k).1 = q.1)
    | none => false)
  | (idx, 1, ci, b, p1 :: p2 :: p3 :: ps) => (match sx_cls[ci]? with
    | some q => sx_at p1 (.classLink (sx_ow oi) idx q.1) && sx_at p2 (.instantiable q.1 q.2.2) && sx_at p3 (.initialized q.1) && (decide (b ≠ 1) || sx_at (ps.getD 0 0) (.arrayOver (.object q.1)))
    | none => false)
  | (idx, 2, cm, n, [p1, p2, p3, p4]) => sx_at p1 (.methodLink (sx_ow oi) idx (sx_y cm)) && sx_at p2 (.instanceMethod (sx_y cm)) && sx_at p3 (.selects (sx_y cm).cls (sx_y cm) (sx_y cm)) && sx_at p4 (.initialized (sx_y cm).cls) && sx_np cm n && decide (cm < 287) && decide (1 ≤ cm)
  | (idx, 3, cm, n, [p1, p2, p3]) => sx_at p1 (.methodLink (sx_ow oi) idx (sx_y cm)) && sx_at p2 (.static (sx_y cm)) && sx_at p3 (.initialized (sx_y cm).cls) && sx_np cm n && decide (cm < 287) && decide (1 ≤ cm)
  | (idx, 5, cm, n, [p1, p2, p3]) => sx_at p1 (.methodLinkNest (sx_ow oi) idx (sx_y cm) "ScaleNets") && sx_at p2 (.static (sx_y cm)) && sx_at p3 (.initialized (sx_y cm).cls) && sx_np cm n && decide (cm < 287) && decide (1 ≤ cm)
  | (idx, 4, cm, n, [p1, p2, p3]) => sx_at p1 (.methodLink (sx_ow oi) idx (sx_y cm)) && sx_at p2 (.instanceMethod (sx_y cm)) && sx_at p3 (.initialized (sx_y cm).cls) && sx_np cm n && decide (cm < 287) && decide (1 ≤ cm) && decide ((sx_y cm).name = "<init>") && decide (sx_rt cm = none)
  | (idx, 6, cm, n, [p1, p2, p3]) => sx_at p1 (.methodLinkNest (sx_ow oi) idx (sx_y cm) "ScaleNets") && sx_at p2 (.instanceMethod (sx_y cm)) && sx_at p3 (.initialized (sx_y cm).cls) && sx_np cm n && decide (cm < 287) && decide (1 ≤ cm) && decide ((sx_y cm).name = "<init>") && decide (sx_rt cm = none)
  | (idx, 7, _, _, [p1, p2, p3]) => sx_at p1 (.methodLink (sx_ow oi) idx Lib.objectInit) && sx_at p2 (.instanceMethod Lib.objectInit) && sx_at p3 (.code Lib.objectInit ⟨#[0xb1]⟩ 1 none)
  | (idx, 8, _, v, [p]) => sx_at p (.constant (sx_ow oi) idx (Int32.ofNat v))
  | (idx, 9, _, v, [p]) => sx_at p (.constantLong (sx_ow oi) idx (Int64.ofNat v))
  | (idx, 10, j, _, [p]) => sx_at p (.stringRef (sx_ow oi) idx (sx_txt.getD j ""))
  | (idx, 11, _, _, [p1, p2, p3, p4]) => sx_at p1 (.methodLink (sx_ow oi) idx arraycopyName) && sx_at p2 (.native arraycopyName) && sx_at p3 (.static arraycopyName) && sx_at p4 (.initialized "java/lang/System")
  | (idx, 15, _, _, [p1, p2, p3, _]) => sx_at p1 (.methodLink (sx_ow oi) idx Lib.Math.max.name) && sx_at p2 (.static Lib.Math.max.name) && sx_at p3 (.initialized "java/lang/Math")
  | (idx, 16, _, _, [p1, p2, p3, _]) => sx_at p1 (.methodLink (sx_ow oi) idx Lib.Math.min.name) && sx_at p2 (.static Lib.Math.min.name) && sx_at p3 (.initialized "java/lang/Math")
  | (idx, 17, _, _, [p1, p2, p3, _]) => sx_at p1 (.methodLink (sx_ow oi) idx Lib.Math.abs.name) && sx_at p2 (.static Lib.Math.abs.name) && sx_at p3 (.initialized "java/lang/Math")
  | (idx, 12, _, _, [p]) => sx_at p (.methodLink (sx_ow oi) idx ⟨"java/lang/String", "length", "()I"⟩)
  | (idx, 13, _, _, [p]) => sx_at p (.methodLink (sx_ow oi) idx ⟨"java/lang/String", "charAt", "(I)C"⟩)
  | _ => false
theorem sx_mtok2 : sx_mt2.all sx_mtok = true := by decide +kernel
theorem sx_mtok3 : sx_mt3.all sx_mtok = true := by decide +kernel
theorem sx_mtok4 : sx_mt4.all sx_mtok = true := by decide +kernel
theorem sx_mtok5 : sx_mt5.all sx_mtok = true := by decide +kernel
theorem sx_mtok6 : sx_mt6.all sx_mtok = true := by decide +kernel
theorem sx_mtok7 : sx_mt7.all sx_mtok = true := by decide +kernel
theorem sx_mtok8 : sx_mt8.all sx_mtok = true := by decide +kernel
theorem sx_mtok9 : sx_mt9.all sx_mtok = true := by decide +kernel
theorem sx_mtok10 : sx_mt10.all sx_mtok = true := by decide +kernel
theorem sx_mtok11 : sx_mt11.all sx_mtok = true := by decide +kernel
theorem sx_lkok0 : sx_lk0.all (sx_lkok 0) = true := by decide +kernel
theorem sx_lkok1 : sx_lk1.all (sx_lkok 1) = true := by decide +kernel
theorem sx_lkok2 : sx_lk2.all (sx_lkok 2) = true := by decide +kernel
theorem sx_lkok3 : sx_lk3.all (sx_lkok 3) = true := by decide +kernel
theorem sx_lkok4 : sx_lk4.all (sx_lkok 4) = true := by decide +kernel
theorem sx_lkok5 : sx_lk5.all (sx_lkok 5) = true := by decide +kernel
theorem sx_lkok6 : sx_lk6.all (sx_lkok 6) = true := by decide +kernel
theorem sx_lkok7 : sx_lk7.all (sx_lkok 7) = true := by decide +kernel
theorem sx_lkok8 : sx_lk8.all (sx_lkok 8) = true := by decide +kernel
theorem sx_lkok9 : sx_lk9.all (sx_lkok 9) = true := by decide +kernel
theorem sx_lkok10 : sx_lk10.all (sx_lkok 10) = true := by decide +kernel
theorem sx_lkok11 : sx_lk11.all (sx_lkok 11) = true := by decide +kernel
theorem sx_lkok12 : sx_lk12.all (sx_lkok 12) = true := by decide +kernel
theorem sx_lkok13 : sx_lk13.all (sx_lkok 13) = true := by decide +kernel
theorem sx_mtall : ∀ r ∈ sx_mtr, sx_mtok r = true := List.forall_mem_append.mpr ⟨List.all_eq_true.mp sx_mtok2, List.forall_mem_append.mpr ⟨List.all_eq_true.mp sx_mtok3, List.forall_mem_append.mpr ⟨List.all_eq_true.mp sx_mtok4, List.forall_mem_append.mpr ⟨List.all_eq_true.mp sx_mtok5, List.forall_mem_append.mpr ⟨List.all_eq_true.mp sx_mtok6, List.forall_mem_append.mpr ⟨List.all_eq_true.mp sx_mtok7, List.forall_mem_append.mpr ⟨List.all_eq_true.mp sx_mtok8, List.forall_mem_append.mpr ⟨List.all_eq_true.mp sx_mtok9, List.forall_mem_append.mpr ⟨List.all_eq_true.mp sx_mtok10, List.all_eq_true.mp sx_mtok11⟩⟩⟩⟩⟩⟩⟩⟩⟩
