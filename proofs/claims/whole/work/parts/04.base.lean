/-! the rows of the data -/
def sx_row (mi : Nat) : MethodName × ByteArray × Nat × Option FieldType × Nat × Nat × Nat × Nat × Nat × Nat := sx_mt.getD mi (x, code, 0, none, 0, 0, 0, 0, 0, 0)
def sx_y (mi : Nat) : MethodName := (sx_row mi).1
def sx_cod (mi : Nat) : ByteArray := (sx_row mi).2.1
def sx_mx (mi : Nat) : Nat := (sx_row mi).2.2.1
def sx_rt (mi : Nat) : Option FieldType := (sx_row mi).2.2.2.1
def sx_oi (mi : Nat) : Nat := (sx_row mi).2.2.2.2.1
def sx_fr (mi : Nat) : Nat := (sx_row mi).2.2.2.2.2.1
def sx_lo (mi : Nat) : Nat := (sx_row mi).2.2.2.2.2.2.1
def sx_ci (mi : Nat) : Nat := (sx_row mi).2.2.2.2.2.2.2.1
def sx_cp (mi : Nat) : Nat := (sx_row mi).2.2.2.2.2.2.2.2.1
def sx_ip (mi : Nat) : Nat := (sx_row mi).2.2.2.2.2.2.2.2.2
def sx_ow (oi : Nat) : String := sx_own.getD oi ""
def sx_lk (oi idx : Nat) : Option (Nat × Nat × Nat × List Nat) := ((sx_lkt.getD oi []).find? (fun e => e.1 == idx)).map (fun e => e.2)
