/-! nothing but the start writes the script's cell -/
theorem ci23 (mi : Nat) : sx_ci mi ≠ 23 := by
  by_cases h : mi < 287
  · have : ∀ i : Fin 287, sx_ci (i : Nat) ≠ 23 := by decide +kernel
    exact this ⟨mi, h⟩
  · have hl : sx_mt.length = 287 := by decide +kernel
    unfold sx_ci sx_row
    rw [List.getD_eq_getElem?_getD, List.getElem?_eq_none (by omega)]
    decide
theorem fin23 (k : Nat) : sx_fin 23 k = true := rfl
theorem kd_ap {T : sxT} {sh : Nat × Nat × List (Option Nat)} (h : sx_kd T 0 = 23) : sx_kd (T ++ [sh]) 0 = 23 := by
  cases T with
  | nil => cases h
  | cons a T => exact h
theorem kd_set {T : sxT} {a k t : Nat} (h : sx_kd T 0 = 23) : sx_kd (sx_setR T a k t) 0 = 23 := by
  cases T with
  | nil => cases h
  | cons x T =>
    cases a with
    | zero => exact h
    | succ a => exact h
theorem up_0 {σ : sxS} {a : Nat} {i v : Int} (h : a ≠ 0) : sx_up σ a i v 0 = σ 0 := by
  funext j
  unfold sx_up
  rw [if_neg (fun z => h z.1.symm)]
theorem cpy_0 {σ : sxS} {a b : Nat} {s d m : Int} (h : b ≠ 0) : sx_cpy σ a s b d m 0 = σ 0 := by
  funext j
  unfold sx_cpy
  rw [if_neg (fun z => h z.1.symm)]
/-- a step that goes on keeps the script's cell -/
def kp0 (T : sxT) (σ : sxS) (r : Option sxA) : Prop := ∀ q, r = some (Sum.inl q) → q.2.2.2.2 0 = σ 0 ∧ sx_kd q.2.2.2.1 0 = 23
section K0
variable {T : sxT} {σ : sxS} (hk : sx_kd T 0 = 23)
theorem k_go (hk : sx_kd T 0 = 23) {pc : Nat} {L : sxL} {st : List sxV} : kp0 T σ (sx_go pc L st T σ) := fun q h => by cases h; exact ⟨rfl, hk⟩
theorem k_no : kp0 T σ none := fun q h => by cases h
theorem k_if {c : Prop} [Decidable c] {r : Option sxA} (h : c → kp0 T σ r) : kp0 T σ (if c then r else none) := by
  split
  · rename_i e; exact h e
  · exact k_no
theorem k_jmp (hk : sx_kd T 0 = 23) {pc : Nat} {off : Int} {L : sxL} {st : List sxV} : kp0 T σ (sx_jmp pc off L st T σ) := by
  unfold sx_jmp; exact k_if (fun _ => k_go hk)
theorem k_call {mi cm n : Nat} {st : List sxV} : kp0 T σ (sx_call mi cm n st) := by
  unfold sx_call
  exact k_if (fun _ q h => by cases h)
theorem k_ldI (hk : sx_kd T 0 = 23) {pc i : Nat} {L : sxL} {st : List sxV} : kp0 T σ (sx_ldI pc i L st T σ) := by
  unfold sx_ldI; split <;> first | exact k_go hk | exact k_no
theorem k_ldA (hk : sx_kd T 0 = 23) {pc i : Nat} {L : sxL} {st : List sxV} : kp0 T σ (sx_ldA pc i L st T σ) := by
  unfold sx_ldA; split <;> first | exact k_go hk | exact k_no
theorem k_stI (hk : sx_kd T 0 = 23) {pc i : Nat} {L : sxL} {st : List sxV} : kp0 T σ (sx_stI pc i L st T σ) := by
  unfold sx_stI; split <;> first | exact k_if (fun _ => k_go hk) | exact k_no
theorem k_stA (hk : sx_kd T 0 = 23) {pc i : Nat} {L : sxL} {st : List sxV} : kp0 T σ (sx_stA pc i L st T σ) := by
  unfold sx_stA; split <;> first | exact k_if (fun _ => k_go hk) | exact k_no
theorem k_bin (hk : sx_kd T 0 = 23) {pc : Nat} {g : Int → Int → Option Int} {L : sxL} {st : List sxV} : kp0 T σ (sx_bin pc g L st T σ) := by
  unfold sx_bin; split
  · split <;> first | exact k_if (fun _ => k_go hk) | exact k_no
  · exact k_no
theorem k_binJ (hk : sx_kd T 0 = 23) {pc : Nat} {g : Int → Int → Option Int} {L : sxL} {st : List sxV} : kp0 T σ (sx_binJ pc g L st T σ) := by
  unfold sx_binJ; split
  · split <;> first | exact k_if (fun _ => k_go hk) | exact k_no
  · exact k_no
theorem k_getf (hk : sx_kd T 0 = 23) {mi pc idx : Nat} {L : sxL} {st : List sxV} : kp0 T σ (sx_getf mi pc idx L st T σ) := by
  unfold sx_getf; split
  · refine k_if (fun _ => ?_)
    split <;> first | exact k_go hk | exact k_no | (split <;> first | exact k_go hk | exact k_no)
  · exact k_no
theorem k_putf (hk : sx_kd T 0 = 23) {mi pc idx : Nat} {L : sxL} {st : List sxV} : kp0 T σ (sx_putf mi pc idx L st T σ) := by
  unfold sx_putf; split
  · rename_i ci k _ v a st' _
    refine k_if (fun h q hq => ?_)
    cases hq
    refine ⟨up_0 (fun z => ?_), hk⟩
    subst z
    have e := h.1.symm.trans hk
    subst e
    rcases h.2.2 with y | y
    · rw [fin23] at y; cases y
    · exact ci23 mi y.2.2
  · rename_i ci k _ v a st' _
    refine k_if (fun h q hq => ?_)
    cases hq
    refine ⟨up_0 (fun z => ?_), hk⟩
    subst z
    have e := h.1.symm.trans hk
    subst e
    have y := h.2.2.1
    rw [fin23] at y; cases y
  · refine k_if (fun h q hq => ?_)
    cases hq
    exact ⟨rfl, kd_set hk⟩
  · exact k_no
theorem k_newo (hk : sx_kd T 0 = 23) {mi pc idx : Nat} {L : sxL} {st : List sxV} : kp0 T σ (sx_newo mi pc idx L st T σ) := by
  unfold sx_newo; split
  · split
    · refine k_if (fun h q hq => ?_)
      cases hq
      exact ⟨rfl, kd_ap hk⟩
    · exact k_no
  · exact k_no
theorem k_aload (hk : sx_kd T 0 = 23) {mi pc kd : Nat} {L : sxL} {st : List sxV} : kp0 T σ (sx_aload mi pc kd L st T σ) := by
  unfold sx_aload; split <;> first | exact k_if (fun _ => k_go hk) | exact k_no
theorem k_astore (hk : sx_kd T 0 = 23) {pc kd : Nat} (h23 : kd ≠ 23) {L : sxL} {st : List sxV} : kp0 T σ (sx_astore pc kd L st T σ) := by
  unfold sx_astore; split
  · refine k_if (fun h q hq => ?_)
    cases hq
    refine ⟨up_0 (fun z => ?_), hk⟩
    subst z
    exact h23 (h.1.symm.trans hk)
  · exact k_no
theorem k_newa (hk : sx_kd T 0 = 23) {pc kd : Nat} {L : sxL} {st : List sxV} : kp0 T σ (sx_newa pc kd L st T σ) := by
  unfold sx_newa; split
  · refine k_if (fun h q hq => ?_)
    cases hq
    exact ⟨rfl, kd_ap hk⟩
  · exact k_no
theorem k_inv (hk : sx_kd T 0 = 23) {mi pc idx vi : Nat} {L : sxL} {st : List sxV} : kp0 T σ (sx_inv mi pc idx vi L st T σ) := by
  unfold sx_inv
  split
  all_goals first
    | exact k_no
    | (refine k_if (fun _ => ?_); exact k_call)
    | (refine k_if (fun _ => ?_); split <;> first | exact k_no | exact k_call | (refine k_if (fun _ => ?_); first | exact k_call | exact k_go hk))
    | skip
  refine k_if (fun _ => ?_)
  split
  · refine k_if (fun h q hq => ?_)
    cases hq
    refine ⟨cpy_0 (fun z => ?_), hk⟩
    subst z
    have := h.2.1.symm.trans hk
    cases this
  · exact k_no
theorem k_do (hk : sx_kd T 0 = 23) {mi pc : Nat} {L : sxL} {st : List sxV} {i : Instr} : kp0 T σ (sx_do mi pc L T σ i st) := by
  unfold sx_do
  split
  all_goals first
    | exact k_no
    | exact k_go hk
    | exact k_jmp hk
    | exact k_ldI hk
    | exact k_ldA hk
    | exact k_stI hk
    | exact k_stA hk
    | exact k_bin hk
    | exact k_binJ hk
    | exact k_getf hk
    | exact k_putf hk
    | exact k_newo hk
    | exact k_newa hk
    | exact k_aload hk
    | exact k_astore hk (by decide)
    | exact k_inv hk
    | exact k_if (fun _ => k_go hk)
    | skip
  all_goals (split <;> first | exact k_no | exact k_go hk | exact k_newa hk | exact k_jmp hk | exact k_if (fun _ => k_go hk) | exact k_if (fun _ => k_jmp hk) | (intro q hq; cases hq; done) | skip)
  all_goals first
    | (split <;> first | exact k_no | exact k_jmp hk | exact k_go hk | (intro q hq; cases hq; done) | (split <;> first | exact k_no | exact k_jmp hk | exact k_go hk) | exact k_if (fun _ q hq => by cases hq))
    | (refine k_if (fun _ => ?_); split <;> first | exact k_no | exact k_go hk)
    | (refine k_if (fun h q hq => ?_); cases hq; exact ⟨rfl, kd_set hk⟩)
    | skip
theorem k_exec (hk : sx_kd T 0 = 23) {mi pc : Nat} {L : sxL} {st : List sxV} : kp0 T σ (sx_exec mi pc L st T σ) := by
  unfold sx_exec
  split
  · exact k_no
  · split
    · exact k_do hk
    · exact k_no
end K0
theorem sim_0 : ∀ (n mi pc : Nat) (L : sxL) (st : List sxV) (T : sxT) (σ : sxS) (u : Option sxV × sxT × sxS), sx_kd T 0 = 23 → sx_sim n mi pc L st T σ = some u → u.2.2 0 = σ 0 ∧ sx_kd u.2.1 0 = 23 := by
  intro n
  induction n with
  | zero => intro mi pc L st T σ u _ h; simp [sx_sim] at h
  | succ n ih =>
    intro mi pc L st T σ u hk h
    rw [sx_sim] at h
    split at h
    · cases h
    · rename_i q hq
      have z := k_exec hk q hq
      have y := ih _ _ _ _ _ _ _ z.2 h
      exact ⟨y.1.trans z.1, y.2⟩
    · split at h
      · cases h
      · rename_i w hw
        have z := ih _ _ _ _ _ _ _ hk hw
        have y := ih _ _ _ _ _ _ _ z.2 h
        exact ⟨y.1.trans z.1, y.2⟩
    · cases h; exact ⟨rfl, hk⟩
theorem Rn_k0 {mi pc : Nat} {L : sxL} {st : List sxV} {T : sxT} {σ : sxS} {K : Option sxV → sxT → sxS → Prop} (h : Rn mi pc L st T σ K) (hk : sx_kd T 0 = 23) : Rn mi pc L st T σ (fun r T' σ' => K r T' σ' ∧ σ' 0 = σ 0) := by
  obtain ⟨n, r, T', σ', h1, h2⟩ := h
  exact ⟨n, r, T', σ', h1, h2, (sim_0 n mi pc L st T σ _ hk h1).1⟩
theorem t00 {n : Nat} : sx_kd (T0 n) 0 = 23 ∧ sx_ln (T0 n) 0 = n := ⟨rfl, rfl⟩
