/-! cells: fields, arrays, new ones -/
theorem sx_fmem {C : String} {T : u_T} {N : Nat} (pl : List Nat) (h : (List.range N).all (fun k => sx_at (pl.getD k 0) (u_lay C T k)) = true) (hg : (u_ws C T N).all goodWord = true) : ∀ w ∈ u_ws C T N, w ∈ sx_gw := by
  intro w hw
  refine List.mem_filter.mpr ⟨?_, List.all_eq_true.mp hg w hw⟩
  obtain ⟨k, hk, rfl⟩ := List.mem_map.mp hw
  exact sx_at_mem (List.all_eq_true.mp h k hk)
def sx_fp0 : List Nat := [252, 254, 256]
theorem sx_fpok0 : (List.range 3).all (fun k => sx_at (sx_fp0.getD k 0) (u_lay RX0 TX0 k)) = true := by decide +kernel
theorem sx_fin0 : ∀ w ∈ u_ws RX0 TX0 3, w ∈ sx_gw := sx_fmem sx_fp0 sx_fpok0 (by decide +kernel)
def sx_fp1 : List Nat := [384, 386]
theorem sx_fpok1 : (List.range 2).all (fun k => sx_at (sx_fp1.getD k 0) (u_lay RX1 TX1 k)) = true := by decide +kernel
theorem sx_fin1 : ∀ w ∈ u_ws RX1 TX1 2, w ∈ sx_gw := sx_fmem sx_fp1 sx_fpok1 (by decide +kernel)
def sx_fp3 : List Nat := [224, 226, 228, 230, 232, 234, 236]
theorem sx_fpok3 : (List.range 7).all (fun k => sx_at (sx_fp3.getD k 0) (u_lay RX3 TX3 k)) = true := by decide +kernel
theorem sx_fin3 : ∀ w ∈ u_ws RX3 TX3 7, w ∈ sx_gw := sx_fmem sx_fp3 sx_fpok3 (by decide +kernel)
def sx_fp4 : List Nat := [285, 287, 289, 291, 293, 295, 297, 299, 301, 303, 305, 307]
theorem sx_fpok4 : (List.range 12).all (fun k => sx_at (sx_fp4.getD k 0) (u_lay RX4 TX4 k)) = true := by decide +kernel
theorem sx_fin4 : ∀ w ∈ u_ws RX4 TX4 12, w ∈ sx_gw := sx_fmem sx_fp4 sx_fpok4 (by decide +kernel)
def sx_fp5 : List Nat := [361, 363, 365, 367, 369, 371]
theorem sx_fpok5 : (List.range 6).all (fun k => sx_at (sx_fp5.getD k 0) (u_lay RX5 TX5 k)) = true := by decide +kernel
theorem sx_fin5 : ∀ w ∈ u_ws RX5 TX5 6, w ∈ sx_gw := sx_fmem sx_fp5 sx_fpok5 (by decide +kernel)
def sx_fp6 : List Nat := [169, 171, 173, 175, 177, 179, 181, 183, 185]
theorem sx_fpok6 : (List.range 9).all (fun k => sx_at (sx_fp6.getD k 0) (u_lay RX6 TX6 k)) = true := by decide +kernel
theorem sx_fin6 : ∀ w ∈ u_ws RX6 TX6 9, w ∈ sx_gw := sx_fmem sx_fp6 sx_fpok6 (by decide +kernel)
def sx_fp7 : List Nat := [142, 144]
theorem sx_fpok7 : (List.range 2).all (fun k => sx_at (sx_fp7.getD k 0) (u_lay RX7 TX7 k)) = true := by decide +kernel
theorem sx_fin7 : ∀ w ∈ u_ws RX7 TX7 2, w ∈ sx_gw := sx_fmem sx_fp7 sx_fpok7 (by decide +kernel)
def sx_fp8 : List Nat := [329, 331, 333, 335, 337, 339, 341, 343, 345]
theorem sx_fpok8 : (List.range 9).all (fun k => sx_at (sx_fp8.getD k 0) (u_lay RX8 TX8 k)) = true := by decide +kernel
theorem sx_fin8 : ∀ w ∈ u_ws RX8 TX8 9, w ∈ sx_gw := sx_fmem sx_fp8 sx_fpok8 (by decide +kernel)
def sx_fp9 : List Nat := [401, 403, 405, 407, 409, 411, 413, 415, 417, 419, 421, 423]
theorem sx_fpok9 : (List.range 12).all (fun k => sx_at (sx_fp9.getD k 0) (u_lay RX9 TX9 k)) = true := by decide +kernel
theorem sx_fin9 : ∀ w ∈ u_ws RX9 TX9 12, w ∈ sx_gw := sx_fmem sx_fp9 sx_fpok9 (by decide +kernel)
def sx_fp10 : List Nat := [1198, 1200, 1202, 1204, 1206, 1208, 1210, 1212, 1214, 1216, 1218, 1220, 1222, 1224, 1226, 1228, 1230, 1232, 1234, 1236, 1238, 1240, 1242, 1244, 1246, 1248, 1250, 1252, 1254, 1256, 1258, 1260, 1262, 1264, 1266, 1268, 1270, 1272, 1274, 1276, 1278, 1280]
theorem sx_fpok10 : (List.range 42).all (fun k => sx_at (sx_fp10.getD k 0) (u_lay RX10 TX10 k)) = true := by decide +kernel
theorem sx_fin10 : ∀ w ∈ u_ws RX10 TX10 42, w ∈ sx_gw := sx_fmem sx_fp10 sx_fpok10 (by decide +kernel)
theorem sx_cls_ok {ci : Nat} {q : vw_C} (h : sx_cls[ci]? = some q) : ci < 10 ∧ (∀ k, k < q.2.2 → parseFieldDescriptor (q.2.1 k).2.2.1 = some (sx_ty ci k)) ∧ (∀ a, a < q.2.2 → ∀ b, b < q.2.2 → a ≠ b → (q.2.1 a).2.1 ≠ (q.2.1 b).2.1) ∧ (∀ w ∈ u_ws q.1 q.2.1 q.2.2, w ∈ sx_gw) ∧ q.2.2 ≤ 100 := by
  rcases ci with _ | _ | _ | _ | _ | _ | _ | _ | _ | _ | n
  · cases h; exact ⟨by decide, tyX0_ok, nmX0, sx_fin0, by decide⟩
  · cases h; exact ⟨by decide, tyX1_ok, nmX1, sx_fin1, by decide⟩
  · cases h; exact ⟨by decide, tyX3_ok, nmX3, sx_fin3, by decide⟩
  · cases h; exact ⟨by decide, tyX4_ok, nmX4, sx_fin4, by decide⟩
  · cases h; exact ⟨by decide, tyX5_ok, nmX5, sx_fin5, by decide⟩
  · cases h; exact ⟨by decide, tyX6_ok, nmX6, sx_fin6, by decide⟩
  · cases h; exact ⟨by decide, tyX7_ok, nmX7, sx_fin7, by decide⟩
  · cases h; exact ⟨by decide, tyX8_ok, nmX8, sx_fin8, by decide⟩
  · cases h; exact ⟨by decide, tyX9_ok, nmX9, sx_fin9, by decide⟩
  · cases h; exact ⟨by decide, tyX10_ok, nmX10, sx_fin10, by decide⟩
  · exact absurd h (by simp [sx_cls])
theorem sx_fv_int {ci k : Nat} (h : sx_fk ci k = 0 ∨ sx_fk ci k = 2) (z : Int) (r : Option Nat) : sx_fv (sx_ty ci k) z r = .int (Int32.ofInt z) := by
  unfold sx_fk at h
  split at h <;> rename_i e <;> first | (rw [e]; rfl) | (exfalso; omega)
theorem sx_fv_long {ci k : Nat} (h : sx_fk ci k = 1) (z : Int) (r : Option Nat) : sx_fv (sx_ty ci k) z r = .long (Int64.ofInt z) := by
  unfold sx_fk at h
  split at h <;> rename_i e <;> first | (rw [e]; rfl) | (exfalso; omega)
theorem sx_fv_ref {ci k : Nat} (h : sx_fk ci k = 3) (z : Int) (r : Option Nat) : sx_fv (sx_ty ci k) z r = va_rf r := by
  unfold sx_fk at h
  split at h <;> rename_i e <;> first | (rw [e]; rfl) | (exfalso; omega)
theorem sx_kd_some {T : sxT} {a k : Nat} (h : sx_kd T a = k) (hk : k ≠ 999) : ∃ sh, T[a]? = some sh ∧ sh.1 = k := by
  unfold sx_kd at h
  split at h
  · rename_i sh e
    exact ⟨sh, e, h⟩
  · exact absurd h.symm hk
theorem sx_ln_of {T : sxT} {a : Nat} {sh : Nat × Nat × List (Option Nat)} (h : T[a]? = some sh) : sx_ln T a = (sh.2.1 : Int) := by
  unfold sx_ln; rw [h]
theorem sx_rf_of {T : sxT} {a k : Nat} {sh : Nat × Nat × List (Option Nat)} (h : T[a]? = some sh) : sx_rf T a k = sh.2.2.getD k none := by
  unfold sx_rf; rw [h]
theorem sx_lt_of {T : sxT} {a : Nat} {sh : Nat × Nat × List (Option Nat)} (h : T[a]? = some sh) : a < T.length := (List.getElem?_eq_some_iff.mp h).1
theorem sx_E_congr {g : sxG} {ad : Nat → Nat} {k : Nat} {sh : Nat × Nat × List (Option Nat)} {σ σ' : sxS} (h : ∀ j, σ' k j = σ k j) : sx_E g ad k sh σ' = sx_E g ad k sh σ := by
  have e : σ' k = σ k := funext h
  unfold sx_E
  rw [e]
theorem sx_E_ad {g : sxG} {ad ad' : Nat → Nat} {k : Nat} {sh : Nat × Nat × List (Option Nat)} {σ : sxS} (h : ∀ j t, sh.2.2.getD j none = some t → ad' t = ad t) : sx_E g ad' k sh σ = sx_E g ad k sh σ := by
  have e : ∀ j : Nat, (sh.2.2.getD j none).map ad' = (sh.2.2.getD j none).map ad := by
    intro j
    cases hq : sh.2.2.getD j none with
    | none => rfl
    | some t => show some _ = some _; rw [h j t hq]
  unfold sx_E
  simp only [e]
theorem sx_E_obj {g : sxG} {ad : Nat → Nat} {k : Nat} {sh : Nat × Nat × List (Option Nat)} {σ : sxS} (h : sh.1 < 20) : sx_E g ad k sh σ = .inr (sh.1, (List.range sh.2.1).map (fun j => sx_fv (sx_ty sh.1 j) (σ k (j : Int)) ((sh.2.2.getD j none).map ad))) := by
  unfold sx_E
  rw [if_neg (by omega), if_neg (by omega), if_neg (by omega)]
section RL
variable {g : sxG} {ad : Nat → Nat} {T : sxT} {σ : sxS} {ws : va_W} {H : Heap}
/-- an object of the world, by its number -/
theorem sx_Rel.obj (hR : sx_Rel g ad T σ ws H) {a ci : Nat} {q : vw_C} (hk : sx_kd T a = ci) (hq : sx_cls[ci]? = some q) : ∃ k0 sh, a = k0 + 1 ∧ T[a]? = some sh ∧ sh.1 = ci ∧ sh.2.1 = q.2.2 ∧ sh.2.2.length = q.2.2 ∧ (∀ j t, sh.2.2.getD j none = some t → t < T.length) ∧ ws[k0]? = some (ad a, .inr (ci, (List.range q.2.2).map (fun j => sx_fv (sx_ty ci j) (σ a (j : Int)) ((sh.2.2.getD j none).map ad)))) := by
  have hc := (sx_cls_ok hq).1
  obtain ⟨sh, h1, h2⟩ := sx_kd_some hk (by omega)
  obtain ⟨-, -, -, hcell, -, -, -, h0, -⟩ := hR
  cases a with
  | zero => rw [h0] at h1; cases h1; exfalso; simp only at h2; omega
  | succ k0 =>
    obtain ⟨e1, e2, e3, -⟩ := hcell k0 sh h1
    obtain ⟨q', e4, e5, e6⟩ : ∃ q, sx_cls[sh.1]? = some q ∧ sh.2.1 = q.2.2 ∧ sh.2.2.length = q.2.2 := by
      rcases e3 with e3 | e3
      · exfalso; omega
      · exact e3
    rw [h2, hq] at e4
    cases e4
    refine ⟨k0, sh, rfl, h1, h2, e5, e6, e2, ?_⟩
    rw [e1, sx_E_obj (by omega), h2, e5]
/-- an array of the world -/
theorem sx_Rel.arr (hR : sx_Rel g ad T σ ws H) {a kd : Nat} (hk : sx_kd T a = kd) (h20 : 20 ≤ kd) (h22 : kd ≤ 22) : ∃ k0 sh, a = k0 + 1 ∧ T[a]? = some sh ∧ sh.1 = kd ∧ sx_ln T a = (sh.2.1 : Int) ∧ sh.2.1 ≤ 100000 ∧ (kd = 22 → sh.2.2.length = sh.2.1) ∧ (∀ j t, sh.2.2.getD j none = some t → t < T.length) ∧ ws[k0]? = some (ad a, sx_E g ad a sh σ) := by
  obtain ⟨sh, h1, h2⟩ := sx_kd_some hk (by omega)
  obtain ⟨-, -, -, hcell, -, -, -, h0, -⟩ := hR
  cases a with
  | zero => rw [h0] at h1; cases h1; exfalso; simp only at h2; omega
  | succ k0 =>
    obtain ⟨e1, e2, e3, e4⟩ := hcell k0 sh h1
    refine ⟨k0, sh, rfl, h1, h2, sx_ln_of h1, e4, fun e => ?_, e2, e1⟩
    rcases e3 with e3 | ⟨q, e3, -⟩
    · omega
    · have := (sx_cls_ok e3).1; omega
/-- contents of one cell change -/
theorem sx_Rel.upd (hR : sx_Rel g ad T σ ws H) {k0 : Nat} {sh : Nat × Nat × List (Option Nat)} {σ' : sxS} {H1 : Heap} {x : va_E} (hT : T[k0 + 1]? = some sh) (ho : ∀ k, k ≠ k0 + 1 → ∀ j, σ' k j = σ k j) (hi : ∀ j, inI (σ' (k0 + 1) j)) (hx : x = sx_E g ad (k0 + 1) sh σ') (hP : va_P g.2.1 sx_cls (ws.set k0 (ad (k0 + 1), x)) H1) (hD : va_D (sx_A g) (ws.set k0 (ad (k0 + 1), x))) : sx_Rel g ad T σ' (ws.set k0 (ad (k0 + 1), x)) H1 := by
  obtain ⟨-, -, hlen, hcell, hTl, hI, hz, h0, hscr⟩ := hR
  have hlt := sx_lt_of hT
  refine ⟨hP, hD, by rw [List.length_set]; exact hlen, fun k sh' hk => ⟨?_, (hcell k sh' hk).2⟩, hTl, fun k j => ?_, fun k j hk => ?_, h0, fun j hj => ?_⟩
  · rw [List.getElem?_set]
    split
    · rename_i e
      subst e
      rw [hT] at hk
      cases hk
      rw [if_pos (by omega), hx]
    · rename_i e
      rw [(hcell k sh' hk).1, sx_E_congr (ho (k + 1) (by omega))]
  · by_cases e : k = k0 + 1
    · rw [e]; exact hi j
    · rw [ho k e]; exact hI k j
  · rw [ho k (by omega)]; exact hz k j hk
  · rw [ho 0 (by omega)]; exact hscr j hj
/-- a reference of one cell changes -/
theorem sx_Rel.updT (hR : sx_Rel g ad T σ ws H) {k0 k t : Nat} {sh : Nat × Nat × List (Option Nat)} {H1 : Heap} {x : va_E} (hT : T[k0 + 1]? = some sh) (ht : t < T.length) (hx : x = sx_E g ad (k0 + 1) (sh.1, sh.2.1, sh.2.2.set k (some t)) σ) (hP : va_P g.2.1 sx_cls (ws.set k0 (ad (k0 + 1), x)) H1) (hD : va_D (sx_A g) (ws.set k0 (ad (k0 + 1), x))) : sx_Rel g ad (sx_setR T (k0 + 1) k t) σ (ws.set k0 (ad (k0 + 1), x)) H1 := by
  obtain ⟨-, -, hlen, hcell, hTl, hI, hz, h0, hscr⟩ := hR
  have hlt := sx_lt_of hT
  have hl : (sx_setR T (k0 + 1) k t).length = T.length := by unfold sx_setR; rw [List.length_modify]
  have hg : ∀ i : Nat, (sx_setR T (k0 + 1) k t)[i]? = if k0 + 1 = i then some (sh.1, sh.2.1, sh.2.2.set k (some t)) else T[i]? := by
    intro i
    unfold sx_setR
    rw [List.getElem?_modify]
    by_cases e : k0 + 1 = i
    · subst e; rw [hT]; simp
    · simp [e]
  refine ⟨hP, hD, by rw [List.length_set, hl]; exact hlen, fun i sh' hk => ?_, by rw [hl]; exact hTl, hI, fun i j hi => hz i j (by rw [hl] at hi; exact hi), by rw [hg, if_neg (by omega)]; exact h0, hscr⟩
  rw [hg] at hk
  rw [hl]
  by_cases e : k0 + 1 = i + 1
  · have e' : k0 = i := by omega
    subst e'
    rw [if_pos rfl] at hk
    cases hk
    refine ⟨?_, ?_⟩
    · rw [List.getElem?_set, if_pos rfl, if_pos (by omega), hx]
    · obtain ⟨o1, o2, o3⟩ := (hcell k0 sh hT).2
      refine ⟨fun j u hu => ?_, by simpa using o2, o3⟩
      simp only [List.getD_eq_getElem?_getD, List.getElem?_set] at hu
      split at hu
      · split at hu
        · simp only [Option.getD_some] at hu; cases hu; exact ht
        · simp at hu
      · exact o1 j u (by rw [List.getD_eq_getElem?_getD]; exact hu)
  · rw [if_neg e] at hk
    refine ⟨?_, (hcell i sh' hk).2⟩
    rw [List.getElem?_set, if_neg (by omega)]
    exact (hcell i sh' hk).1
/-- a new cell -/
theorem sx_Rel.push (hR : sx_Rel g ad T σ ws H) {sh : Nat × Nat × List (Option Nat)} {H1 : Heap} {x : va_E} {q : Nat} (hl : T.length < 1000000) (hok : sx_shok (T.length + 1) sh) (hx : x = sx_E g (fun k => if k = T.length then q else ad k) T.length sh σ) (hP : va_P g.2.1 sx_cls (ws ++ [(q, x)]) H1) (hD : va_D (sx_A g) (ws ++ [(q, x)])) : sx_Rel g (fun k => if k = T.length then q else ad k) (T ++ [sh]) σ (ws ++ [(q, x)]) H1 := by
  obtain ⟨-, -, hlen, hcell, hTl, hI, hz, h0, hscr⟩ := hR
  have hl' : (T ++ [sh]).length = T.length + 1 := by simp
  have h0lt := sx_lt_of h0
  refine ⟨hP, hD, by rw [hl']; simp; omega, fun k sh' hk => ?_, by rw [hl']; omega, hI, fun k j hk => hz k j (by rw [hl'] at hk; omega), by rw [List.getElem?_append_left h0lt]; exact h0, hscr⟩
  rw [hl']
  rcases Nat.lt_or_ge (k + 1) T.length with hk1 | hk1
  · rw [List.getElem?_append_left hk1] at hk
    obtain ⟨c1, c2, c3⟩ := hcell k sh' hk
    refine ⟨?_, fun j t h => Nat.lt_succ_of_lt (c2 j t h), c3⟩
    rw [List.getElem?_append_left (by omega), c1, sx_E_ad (ad' := fun k => if k = T.length then q else ad k) (fun j t h => if_neg (by have := c2 j t h; omega))]
    simp only
    rw [if_neg (by omega)]
  · have e : k + 1 = T.length := by
      have := sx_lt_of hk
      rw [hl'] at this
      omega
    rw [e, List.getElem?_append_right (Nat.le_refl _), Nat.sub_self] at hk
    cases hk
    refine ⟨?_, hok⟩
    rw [List.getElem?_append_right (by omega), show k - ws.length = 0 from by omega, e, hx]
    simp
end RL
