/-! cells never go; what calls and returns are -/
section MT
variable {mi pc : Nat} {L : sxL} {st : List sxV} {T : sxT} {σ : sxS} {pc' : Nat} {L' : sxL} {st' : List sxV} {T' : sxT} {σ' : sxS}
theorem mt_app (T : sxT) (sh : Nat × Nat × List (Option Nat)) : T.length ≤ (T ++ [sh]).length ∧ sx_sl T ≤ sx_sl (T ++ [sh]) := by simp [sx_sl]
theorem mt_set (T : sxT) (a k t : Nat) : T.length ≤ (sx_setR T a k t).length ∧ sx_sl T ≤ sx_sl (sx_setR T a k t) := by rw [sx_setR_len, sx_setR_sl]; exact ⟨Nat.le_refl _, Nat.le_refl _⟩
theorem mt_newa {n kd : Nat} (h : sx_newa n kd L st T σ = some (.inl (pc', L', st', T', σ'))) : T.length ≤ T'.length ∧ sx_sl T ≤ sx_sl T' := by
  unfold sx_newa at h
  repeat' split at h
  all_goals first | (cases h; done) | (cases h; exact mt_app _ _)
theorem mt_jmp {off : Int} (h : sx_jmp pc off L st T σ = some (.inl (pc', L', st', T', σ'))) : T.length ≤ T'.length ∧ sx_sl T ≤ sx_sl T' := by
  obtain ⟨-, -, -, rfl, -⟩ := so_jmp h; exact ⟨Nat.le_refl _, Nat.le_refl _⟩
theorem mt_inv {idx vi : Nat} (h : sx_inv mi pc idx vi L st T σ = some (.inl (pc', L', st', T', σ'))) : T.length ≤ T'.length ∧ sx_sl T ≤ sx_sl T' := by
  unfold sx_inv sx_call at h
  repeat' split at h
  all_goals first | (cases h; done) | (cases h; exact ⟨Nat.le_refl _, Nat.le_refl _⟩)
theorem mt_do {i : Instr} (h : sx_do mi pc L T σ i st = some (.inl (pc', L', st', T', σ'))) : T.length ≤ T'.length ∧ sx_sl T ≤ sx_sl T' := by
  cases i
  case invokevirtual n => exact mt_inv h
  case invokestatic n => exact mt_inv h
  case invokespecial n => exact mt_inv h
  case goto n => exact mt_jmp h
  case newarray t =>
    cases t
    case int => exact mt_newa (n := pc + 2) (kd := 20) h
    case boolean => exact mt_newa (n := pc + 2) (kd := 21) h
    all_goals (simp only [sx_do] at h; cases h)
  case anewarray n =>
    simp only [sx_do] at h
    split at h
    · exact mt_newa h
    · cases h
  case tableswitch d lo hi offs =>
    simp only [sx_do] at h
    split at h
    · split at h
      · exact mt_jmp h
      · split at h
        · exact mt_jmp h
        · cases h
    · cases h
  case lookupswitch d ps =>
    simp only [sx_do] at h
    split at h
    · split at h
      · exact mt_jmp h
      · cases h
    · cases h
  all_goals (simp only [sx_do, sx_bin, sx_binJ, sx_ldI, sx_ldA, sx_stI, sx_stA, sx_getf, sx_putf, sx_newo, sx_aload, sx_astore] at h)
  all_goals (repeat' split at h)
  all_goals first | (cases h; done) | (cases h; exact ⟨Nat.le_refl _, Nat.le_refl _⟩) | (cases h; exact mt_app _ _) | (cases h; exact mt_set _ _ _ _)
theorem mt_exec (h : sx_exec mi pc L st T σ = some (.inl (pc', L', st', T', σ'))) : T.length ≤ T'.length ∧ sx_sl T ≤ sx_sl T' := by
  unfold sx_exec at h
  split at h
  · cases h
  · split at h
    · exact mt_do h
    · cases h
end MT
theorem mt_sim : ∀ (n mi pc : Nat) (L : sxL) (st : List sxV) (T : sxT) (σ : sxS) (r : Option sxV) (T' : sxT) (σ' : sxS), sx_sim n mi pc L st T σ = some (r, T', σ') → T.length ≤ T'.length ∧ sx_sl T ≤ sx_sl T' := by
  intro n
  induction n with
  | zero => intro mi pc L st T σ r T' σ' h; simp [sx_sim] at h
  | succ n ih =>
    intro mi pc L st T σ r T' σ' h
    rw [sx_sim] at h
    split at h
    · cases h
    · rename_i q hq
      obtain ⟨pc1, L1, st1, T1, σ1⟩ := q
      have h1 := mt_exec hq
      have h2 := ih _ _ _ _ _ _ _ _ _ h
      exact ⟨Nat.le_trans h1.1 h2.1, Nat.le_trans h1.2 h2.2⟩
    · split at h
      · cases h
      · rename_i u hu
        obtain ⟨r1, T1, σ1⟩ := u
        have h1 := ih _ _ _ _ _ _ _ _ _ hu
        have h2 := ih _ _ _ _ _ _ _ _ _ h
        exact ⟨Nat.le_trans h1.1 h2.1, Nat.le_trans h1.2 h2.2⟩
    · cases h
      exact ⟨Nat.le_refl _, Nat.le_refl _⟩
section CR
variable {mi pc : Nat} {L : sxL} {st : List sxV} {T : sxT} {σ : sxS}
theorem cr_inv {idx vi : Nat} {r : Option sxV} (h : sx_inv mi pc idx vi L st T σ = some (.inr (.inr r))) : False := by
  unfold sx_inv sx_call at h
  repeat' split at h
  all_goals cases h
theorem cr_ret {r : Option sxV} (h : sx_exec mi pc L st T σ = some (.inr (.inr r))) : (decode (sx_cod mi) pc = .ok (.ireturn, 1) ∧ ∃ v, st = [vI v] ∧ r = some (vI v) ∧ (sx_rt mi = some .int ∨ (sx_rt mi = some .boolean ∧ (v = 0 ∨ v = 1)))) ∨ (decode (sx_cod mi) pc = .ok (.return_, 1) ∧ st = [] ∧ r = none ∧ sx_rt mi = none) := by
  unfold sx_exec at h
  split at h
  · cases h
  rename_i i len hd
  split at h
  case isFalse => cases h
  rename_i hlen
  rcases in_do h with ⟨z, hz⟩ | ⟨idx, rfl | rfl | rfl⟩ | rfl | rfl
  · cases hz
  · exact (cr_inv h).elim
  · exact (cr_inv h).elim
  · exact (cr_inv h).elim
  · cases so_len (k := 1) hlen rfl (by decide)
    simp only [sx_do] at h
    split at h
    · rename_i v
      split at h
      · rename_i hr
        cases h
        exact Or.inl ⟨hd, v, rfl, rfl, Or.inl hr⟩
      · rename_i hr
        split at h
        · rename_i hv
          cases h
          exact Or.inl ⟨hd, v, rfl, rfl, Or.inr ⟨hr, hv⟩⟩
        · cases h
      · cases h
    · cases h
  · cases so_len (k := 1) hlen rfl (by decide)
    simp only [sx_do] at h
    split at h
    · split at h
      · rename_i hr
        cases h
        exact Or.inr ⟨hd, rfl, rfl, hr⟩
      · cases h
    · cases h
def sx_cc (mi cm n : Nat) (st : List sxV) (L' : sxL) (st' : List sxV) : Prop := sx_fits mi cm n = true ∧ n ≤ st.length ∧ st'.length ≤ 4 ∧ (∀ v ∈ st.take n, sx_nJ v = true) ∧ L' = sx_ent cm (st.take n).reverse ∧ st' = st.drop n
theorem cr_call {cm n : Nat} {q : Nat × sxL × List sxV} (h : sx_call mi cm n st = some (.inr (.inl q))) : q.1 = cm ∧ sx_cc mi cm n st q.2.1 q.2.2 := by
  unfold sx_call at h
  split at h
  · rename_i hc
    cases h
    exact ⟨rfl, hc.1, hc.2.1, hc.2.2.1, List.all_eq_true.mp hc.2.2.2, rfl, rfl⟩
  · cases h
theorem cr_calls {q : Nat × sxL × List sxV} (h : sx_exec mi pc L st T σ = some (.inr (.inl q))) : ∃ idx n ps,
    (decode (sx_cod mi) pc = .ok (.invokevirtual idx, 3) ∧ sx_lk (sx_oi mi) idx = some (2, q.1, n, ps) ∧ (∃ a tl, st.drop n = vR a :: tl ∧ sx_kd T a = sx_ci q.1) ∧ sx_cc mi q.1 (n + 1) st q.2.1 q.2.2) ∨
    (decode (sx_cod mi) pc = .ok (.invokestatic idx, 3) ∧ (sx_lk (sx_oi mi) idx = some (3, q.1, n, ps) ∨ sx_lk (sx_oi mi) idx = some (5, q.1, n, ps)) ∧ sx_cc mi q.1 n st q.2.1 q.2.2) ∨
    (decode (sx_cod mi) pc = .ok (.invokespecial idx, 3) ∧ (sx_lk (sx_oi mi) idx = some (4, q.1, n, ps) ∨ sx_lk (sx_oi mi) idx = some (6, q.1, n, ps)) ∧ (∃ a tl, st.drop n = vR a :: tl) ∧ sx_cc mi q.1 (n + 1) st q.2.1 q.2.2) := by
  unfold sx_exec at h
  split at h
  · cases h
  rename_i i len hd
  split at h
  case isFalse => cases h
  rename_i hlen
  have key : ∀ idx vi, sx_inv mi pc idx vi L st T σ = some (.inr (.inl q)) → ∃ n ps, (vi = 0 ∧ sx_lk (sx_oi mi) idx = some (2, q.1, n, ps) ∧ (∃ a tl, st.drop n = vR a :: tl ∧ sx_kd T a = sx_ci q.1) ∧ sx_cc mi q.1 (n + 1) st q.2.1 q.2.2) ∨ (vi = 1 ∧ (sx_lk (sx_oi mi) idx = some (3, q.1, n, ps) ∨ sx_lk (sx_oi mi) idx = some (5, q.1, n, ps)) ∧ sx_cc mi q.1 n st q.2.1 q.2.2) ∨ (vi = 2 ∧ (sx_lk (sx_oi mi) idx = some (4, q.1, n, ps) ∨ sx_lk (sx_oi mi) idx = some (6, q.1, n, ps)) ∧ (∃ a tl, st.drop n = vR a :: tl) ∧ sx_cc mi q.1 (n + 1) st q.2.1 q.2.2) := by
    intro idx vi h
    unfold sx_inv at h
    split at h
    · rename_i cm n ps hlk
      split at h
      · rename_i hv
        split at h
        · rename_i a tl hdr
          split at h
          · rename_i hk
            obtain ⟨h1, h2⟩ := cr_call h
            subst h1
            exact ⟨n, ps, Or.inl ⟨hv, hlk, ⟨a, tl, hdr, hk⟩, h2⟩⟩
          · cases h
        · cases h
      · cases h
    · rename_i cm n ps hlk
      split at h
      · rename_i hv
        obtain ⟨h1, h2⟩ := cr_call h
        subst h1
        exact ⟨n, ps, Or.inr (Or.inl ⟨hv, Or.inl hlk, h2⟩)⟩
      · cases h
    · rename_i cm n ps hlk
      split at h
      · rename_i hv
        obtain ⟨h1, h2⟩ := cr_call h
        subst h1
        exact ⟨n, ps, Or.inr (Or.inl ⟨hv, Or.inr hlk, h2⟩)⟩
      · cases h
    · rename_i cm n ps hlk
      split at h
      · rename_i hv
        split at h
        · rename_i a tl hdr
          obtain ⟨h1, h2⟩ := cr_call h
          subst h1
          exact ⟨n, ps, Or.inr (Or.inr ⟨hv, Or.inl hlk, ⟨a, tl, hdr⟩, h2⟩)⟩
        · cases h
      · cases h
    · rename_i cm n ps hlk
      split at h
      · rename_i hv
        split at h
        · rename_i a tl hdr
          obtain ⟨h1, h2⟩ := cr_call h
          subst h1
          exact ⟨n, ps, Or.inr (Or.inr ⟨hv, Or.inr hlk, ⟨a, tl, hdr⟩, h2⟩)⟩
        · cases h
      · cases h
    all_goals (repeat' split at h)
    all_goals cases h
  rcases in_do h with ⟨z, hz⟩ | ⟨idx, rfl | rfl | rfl⟩ | rfl | rfl
  · cases hz
  · cases so_len (k := 3) hlen rfl (by decide)
    obtain ⟨n, ps, z | z | z⟩ := key idx 0 h
    · exact ⟨idx, n, ps, Or.inl ⟨hd, z.2⟩⟩
    · exact absurd z.1 (by decide)
    · exact absurd z.1 (by decide)
  · cases so_len (k := 3) hlen rfl (by decide)
    obtain ⟨n, ps, z | z | z⟩ := key idx 1 h
    · exact absurd z.1 (by decide)
    · exact ⟨idx, n, ps, Or.inr (Or.inl ⟨hd, z.2⟩)⟩
    · exact absurd z.1 (by decide)
  · cases so_len (k := 3) hlen rfl (by decide)
    obtain ⟨n, ps, z | z | z⟩ := key idx 2 h
    · exact absurd z.1 (by decide)
    · exact absurd z.1 (by decide)
    · exact ⟨idx, n, ps, Or.inr (Or.inr ⟨hd, z.2⟩)⟩
  · simp only [sx_do] at h
    repeat' split at h
    all_goals cases h
  · simp only [sx_do] at h
    repeat' split at h
    all_goals cases h
end CR
