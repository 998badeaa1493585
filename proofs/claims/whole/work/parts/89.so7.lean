/-! what a step can be; calls; a run of the plain machine is one of the machine -/
section CL
variable {mi pc : Nat} {L : sxL} {st : List sxV} {T : sxT} {σ : sxS} {q : sxA}
theorem in_bin {f : Int → Int → Option Int} (h : sx_bin pc f L st T σ = some q) : ∃ z, q = .inl z := by
  unfold sx_bin at h
  repeat' split at h
  all_goals first | (cases h; done) | (cases h; exact ⟨_, rfl⟩)
theorem in_binJ {f : Int → Int → Option Int} (h : sx_binJ pc f L st T σ = some q) : ∃ z, q = .inl z := by
  unfold sx_binJ at h
  repeat' split at h
  all_goals first | (cases h; done) | (cases h; exact ⟨_, rfl⟩)
theorem in_ldI {i : Nat} (h : sx_ldI pc i L st T σ = some q) : ∃ z, q = .inl z := by
  unfold sx_ldI at h
  split at h
  all_goals first | (cases h; done) | (cases h; exact ⟨_, rfl⟩)
theorem in_ldA {i : Nat} (h : sx_ldA pc i L st T σ = some q) : ∃ z, q = .inl z := by
  unfold sx_ldA at h
  split at h
  all_goals first | (cases h; done) | (cases h; exact ⟨_, rfl⟩)
theorem in_stI {i : Nat} (h : sx_stI pc i L st T σ = some q) : ∃ z, q = .inl z := by
  unfold sx_stI at h
  repeat' split at h
  all_goals first | (cases h; done) | (cases h; exact ⟨_, rfl⟩)
theorem in_stA {i : Nat} (h : sx_stA pc i L st T σ = some q) : ∃ z, q = .inl z := by
  unfold sx_stA at h
  repeat' split at h
  all_goals first | (cases h; done) | (cases h; exact ⟨_, rfl⟩)
theorem in_getf {i : Nat} (h : sx_getf mi pc i L st T σ = some q) : ∃ z, q = .inl z := by
  unfold sx_getf at h
  repeat' split at h
  all_goals first | (cases h; done) | (cases h; exact ⟨_, rfl⟩)
theorem in_putf {i : Nat} (h : sx_putf mi pc i L st T σ = some q) : ∃ z, q = .inl z := by
  unfold sx_putf at h
  repeat' split at h
  all_goals first | (cases h; done) | (cases h; exact ⟨_, rfl⟩)
theorem in_newo {i : Nat} (h : sx_newo mi pc i L st T σ = some q) : ∃ z, q = .inl z := by
  unfold sx_newo at h
  repeat' split at h
  all_goals first | (cases h; done) | (cases h; exact ⟨_, rfl⟩)
theorem in_aload {i : Nat} (h : sx_aload mi pc i L st T σ = some q) : ∃ z, q = .inl z := by
  unfold sx_aload at h
  repeat' split at h
  all_goals first | (cases h; done) | (cases h; exact ⟨_, rfl⟩)
theorem in_astore {i : Nat} (h : sx_astore pc i L st T σ = some q) : ∃ z, q = .inl z := by
  unfold sx_astore at h
  repeat' split at h
  all_goals first | (cases h; done) | (cases h; exact ⟨_, rfl⟩)
theorem in_newa {i : Nat} (h : sx_newa pc i L st T σ = some q) : ∃ z, q = .inl z := by
  unfold sx_newa at h
  repeat' split at h
  all_goals first | (cases h; done) | (cases h; exact ⟨_, rfl⟩)
theorem in_jmp {i : Int} (h : sx_jmp pc i L st T σ = some q) : ∃ z, q = .inl z := by
  unfold sx_jmp at h
  repeat' split at h
  all_goals first | (cases h; done) | (cases h; exact ⟨_, rfl⟩)
theorem in_go {pc' : Nat} {L' : sxL} {st' : List sxV} {T' : sxT} {σ' : sxS} (h : sx_go pc' L' st' T' σ' = some q) : ∃ z, q = .inl z := by
  cases h; exact ⟨_, rfl⟩
/-- all but calls and returns go on in the same method -/
theorem in_do {i : Instr} (h : sx_do mi pc L T σ i st = some q) : (∃ z, q = .inl z) ∨ (∃ idx, i = .invokevirtual idx ∨ i = .invokestatic idx ∨ i = .invokespecial idx) ∨ i = .ireturn ∨ i = .return_ := by
  cases i
  case invokevirtual n => exact Or.inr (Or.inl ⟨n, Or.inl rfl⟩)
  case invokestatic n => exact Or.inr (Or.inl ⟨n, Or.inr (Or.inl rfl)⟩)
  case invokespecial n => exact Or.inr (Or.inl ⟨n, Or.inr (Or.inr rfl)⟩)
  case ireturn => exact Or.inr (Or.inr (Or.inl rfl))
  case return_ => exact Or.inr (Or.inr (Or.inr rfl))
  case iload_n n => exact Or.inl (in_ldI (i := n) (pc := pc + 1) h)
  case iload n => exact Or.inl (in_ldI (i := n) (pc := pc + 2) h)
  case aload_n n => exact Or.inl (in_ldA (i := n) (pc := pc + 1) h)
  case aload n => exact Or.inl (in_ldA (i := n) (pc := pc + 2) h)
  case istore_n n => exact Or.inl (in_stI (i := n) (pc := pc + 1) h)
  case istore n => exact Or.inl (in_stI (i := n) (pc := pc + 2) h)
  case astore_n n => exact Or.inl (in_stA (i := n) (pc := pc + 1) h)
  case astore n => exact Or.inl (in_stA (i := n) (pc := pc + 2) h)
  case getfield n => exact Or.inl (in_getf (i := n) h)
  case putfield n => exact Or.inl (in_putf (i := n) h)
  case new n => exact Or.inl (in_newo (i := n) h)
  case iaload => exact Or.inl (in_aload (i := 20) h)
  case baload => exact Or.inl (in_aload (i := 21) h)
  case iastore => exact Or.inl (in_astore (i := 20) h)
  case bastore => exact Or.inl (in_astore (i := 21) h)
  case goto n => exact Or.inl (in_jmp (i := n) h)
  case iadd => simp only [sx_do] at h; exact Or.inl (in_bin h)
  case isub => simp only [sx_do] at h; exact Or.inl (in_bin h)
  case imul => simp only [sx_do] at h; exact Or.inl (in_bin h)
  case idiv => simp only [sx_do] at h; exact Or.inl (in_bin h)
  case irem => simp only [sx_do] at h; exact Or.inl (in_bin h)
  case ishl => simp only [sx_do] at h; exact Or.inl (in_bin h)
  case ishr => simp only [sx_do] at h; exact Or.inl (in_bin h)
  case iushr => simp only [sx_do] at h; exact Or.inl (in_bin h)
  case iand => simp only [sx_do] at h; exact Or.inl (in_bin h)
  case ior => simp only [sx_do] at h; exact Or.inl (in_bin h)
  case ixor => simp only [sx_do] at h; exact Or.inl (in_bin h)
  case ladd => simp only [sx_do] at h; exact Or.inl (in_binJ h)
  case lmul => simp only [sx_do] at h; exact Or.inl (in_binJ h)
  case lrem => simp only [sx_do] at h; exact Or.inl (in_binJ h)
  case land => simp only [sx_do] at h; exact Or.inl (in_binJ h)
  case newarray t =>
    cases t
    case int => exact Or.inl (in_newa (pc := pc + 2) (i := 20) h)
    case boolean => exact Or.inl (in_newa (pc := pc + 2) (i := 21) h)
    all_goals (simp only [sx_do] at h; cases h)
  case anewarray n =>
    simp only [sx_do] at h
    split at h
    · exact Or.inl (in_newa h)
    · cases h
  case tableswitch d lo hi offs =>
    simp only [sx_do] at h
    split at h
    · split at h
      · exact Or.inl (in_jmp h)
      · split at h
        · exact Or.inl (in_jmp h)
        · cases h
    · cases h
  case lookupswitch d ps =>
    simp only [sx_do] at h
    split at h
    · split at h
      · exact Or.inl (in_jmp h)
      · cases h
    · cases h
  all_goals (refine Or.inl ?_; simp only [sx_do] at h)
  all_goals (repeat' split at h)
  all_goals first | (cases h; done) | (cases h; exact ⟨_, rfl⟩)
end CL
