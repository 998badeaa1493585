/-! one step of the plain machine is one of the machine: fields, arrays, new cells -/
section SO2
variable {g : sxG} {ad0 : Nat → Nat} {mi : Nat} {p : Program} {l : Launch} {e : Env} {R : Room} {s : State} {m : MethodId} {args : Array Value} {below : List Frame} {meth : Method} {c : Code} {Q : State → Prop} {e1 e2 pc : Nat} {L : sxL} {st : List sxV} {T : sxT} {σ : sxS}
variable {pc' : Nat} {L' : sxL} {st' : List sxV} {T' : sxT} {σ' : sxS}
theorem so_lk0 {oi idx ci k : Nat} {ps : List Nat} (h : sx_lk oi idx = some (0, ci, k, ps)) : ∃ q, sx_cls[ci]? = some q ∧ k < q.2.2 ∧ Cond.fieldLink (sx_ow oi) idx (q.2.1 k).1 (q.2.1 k).2.1 (q.2.1 k).2.2.1 ∈ lw_tbl ∧ (q.2.1 k).1 = q.1 := by
  have h1 := sx_lk_ok h
  unfold sx_lkok at h1
  split at h1 <;> rename_i e <;> first | (cases e; done) | skip
  · cases e
    split at h1
    · rename_i q hq
      simp only [Bool.and_eq_true, decide_eq_true_eq] at h1
      exact ⟨q, hq, h1.1.1, sx_at_mem h1.1.2, h1.2⟩
    · cases h1
  all_goals first | (cases e; done) | cases h1
theorem so_getf {idx : Nat} (cx : sx_Cx g ad0 mi p R s m args meth c) (hd : decode (sx_cod mi) pc = .ok (.getfield idx, 3)) (h : sx_getf mi pc idx L st T σ = some (.inl (pc', L', st', T', σ'))) (k : sx_Go g ad0 mi p l e R s m args below meth c Q e1 e2 pc' L' st' T' σ') : sx_Go g ad0 mi p l e R s m args below meth c Q e1 e2 pc L st T σ := by
  unfold sx_getf at h
  split at h
  · rename_i ci fk ps a st1 hlk
    obtain ⟨q, hq, hk, hlink, -⟩ := so_lk0 hlk
    split at h
    · rename_i hkd
      intro ad ws H locs ls cells slots cf
      have hR := cf.1
      obtain ⟨k0, sh, rfl, hT, hs1, hs2, hs3, hs4, hws⟩ := hR.obj hkd hq
      have hlink' := sx_tb cx.2.2.2.2.2.2.2.1 hlink rfl
      have key : ∀ (v : sxV), sx_okV T.length v → sx_fv (sx_ty ci fk) (σ (k0 + 1) (fk : Int)) ((sh.2.2.getD fk none).map ad) = sx_rv ad v → sx_Go g ad0 mi p l e R s m args below meth c Q e1 e2 (pc + 3) L (v :: st1) T σ → W p l e R s m args below meth c H locs cells slots Q (F0 m pc ls (List.map (sx_rv ad) (vR (k0 + 1) :: st1))) := by
        intro v hv he kk
        refine va_get (C := q.1) (T := q.2.1) (N := q.2.2) cx.1 cx.2.1 cx.2.2.2.2.2.2.2.1 (sx_cls_ok hq).2.2.2.1 cx.2.2.2.2.2.2.1 cx.2.2.2.2.2.2.2.2.1.2.2.1 hR.1 k0 hws (by rw [hq]) fk hk hlink' (fun _ z => z) (v := sx_rv ad v) ?_ hd ?_
        · rw [List.getElem?_map, List.getElem?_range hk, ← he]; rfl
        · exact kk ad ws H locs ls cells slots (cf.st (by
            intro w hw
            rcases List.mem_cons.mp hw with rfl | hw
            · exact hv
            · exact cf.2.2.2.1 w (by simp [hw])))
      split at h
      · rename_i hf
        cases h
        exact key (vI (σ (k0 + 1) fk)) (hR.2.2.2.2.2.1 _ _) (sx_fv_int (Or.inl hf) _ _) k
      · rename_i hf
        cases h
        have := hR.2.2.2.2.2.1 (k0 + 1) fk
        exact key (vJ (σ (k0 + 1) fk)) (show inJ _ from ⟨by omega, by omega⟩) (sx_fv_long hf _ _) k
      · rename_i hf
        cases h
        exact key (vI (σ (k0 + 1) fk)) (hR.2.2.2.2.2.1 _ _) (sx_fv_int (Or.inr hf) _ _) k
      · rename_i hf
        split at h
        · rename_i t ht
          cases h
          rw [sx_rf_of hT] at ht
          exact key (vR t) (Or.inl (hs4 _ _ ht)) (by rw [sx_fv_ref hf, ht]; rfl) k
        · cases h
      · cases h
    · cases h
  · cases h
theorem so_fits_int {ci k : Nat} {q : vw_C} {v : Int} (hq : sx_cls[ci]? = some q) (hk : k < q.2.2) (hf : sx_fk ci k = 0 ∨ (sx_fk ci k = 2 ∧ (v = 0 ∨ v = 1))) : ∃ ty, parseFieldDescriptor (q.2.1 k).2.2.1 = some ty ∧ narrow ty (.int (Int32.ofInt v)) = .int (Int32.ofInt v) ∧ fits ty (.int (Int32.ofInt v)) = true := by
  refine ⟨_, (sx_cls_ok hq).2.1 k hk, ?_⟩
  rcases hf with hf | ⟨hf, hv⟩
  · unfold sx_fk at hf
    split at hf <;> rename_i e <;> first | (rw [e]; exact ⟨rfl, rfl⟩) | (exfalso; omega)
  · unfold sx_fk at hf
    split at hf <;> rename_i e <;> first | (rw [e]; rcases hv with rfl | rfl <;> exact ⟨rfl, rfl⟩) | (exfalso; omega)
theorem so_setmap {n k : Nat} {f f' : Nat → Value} {v : Value} (hv : f' k = v) (ho : ∀ j, j ≠ k → f' j = f j) : ((List.range n).map f).set k v = (List.range n).map f' := by
  apply List.ext_getElem?
  intro j
  rw [List.getElem?_set]
  by_cases e : k = j
  · subst e
    rw [if_pos rfl]
    rcases Nat.lt_or_ge k n with h | h
    · rw [if_pos (by simpa using h), List.getElem?_map, List.getElem?_range h, ← hv]; rfl
    · rw [if_neg (by simp; omega), List.getElem?_eq_none (by simpa using h)]
  · rw [if_neg e, List.getElem?_map, List.getElem?_map]
    rcases Nat.lt_or_ge j n with h | h
    · rw [List.getElem?_range h]; show some _ = some _; rw [ho j (fun q => e q.symm)]
    · rw [List.getElem?_eq_none (by simpa using h)]; rfl
theorem so_putf {idx : Nat} (cx : sx_Cx g ad0 mi p R s m args meth c) (hd : decode (sx_cod mi) pc = .ok (.putfield idx, 3)) (hm0 : mi = 0 ∨ (1 ≤ mi ∧ mi < 287)) (h : sx_putf mi pc idx L st T σ = some (.inl (pc', L', st', T', σ'))) (k : sx_Go g ad0 mi p l e R s m args below meth c Q e1 e2 pc' L' st' T' σ') : sx_Go g ad0 mi p l e R s m args below meth c Q e1 e2 pc L st T σ := by
  unfold sx_putf at h
  split at h
  · rename_i ci fk ps v a st1 hlk
    obtain ⟨q, hq, hk, hlink, hdecl⟩ := so_lk0 hlk
    split at h
    · rename_i hc
      obtain ⟨hkd, hf, hfin⟩ := hc
      cases h
      intro ad ws H locs ls cells slots cf
      have hR := cf.1
      obtain ⟨k0, sh, rfl, hT, hs1, hs2, hs3, hs4, hws⟩ := hR.obj hkd hq
      have hlink' := sx_tb cx.2.2.2.2.2.2.2.1 hlink rfl
      obtain ⟨ty, t1, t2, t3⟩ := so_fits_int hq hk hf
      have hvi : inI v := cf.2.2.2.1 (vI v) (by simp)
      have fin : ∀ (H1 : Heap) (locs1 : List Loc), va_P g.2.1 sx_cls (ws.set k0 (ad (k0 + 1), .inr (ci, ((List.range q.2.2).map (fun j => sx_fv (sx_ty ci j) (σ (k0 + 1) (j : Int)) ((sh.2.2.getD j none).map ad))).set fk (.int (Int32.ofInt v))))) H1 → va_D (sx_A g) (ws.set k0 (ad (k0 + 1), .inr (ci, ((List.range q.2.2).map (fun j => sx_fv (sx_ty ci j) (σ (k0 + 1) (j : Int)) ((sh.2.2.getD j none).map ad))).set fk (.int (Int32.ofInt v))))) → va_S (sx_A g) s.heap H1 locs1 → W p l e R s m args below meth c H1 locs1 cells slots Q (F0 m (pc + 3) ls (List.map (sx_rv ad) st')) := by
        intro H1 locs1 hP1 hD1 hS1
        refine k ad _ H1 locs1 ls cells slots ⟨hR.upd hT (σ' := sx_up σ (k0 + 1) fk v) (fun k hk j => by simp [sx_up, hk]) (fun j => ?_) ?_ hP1 hD1, cf.2.1, cf.2.2.1, fun w hw => cf.2.2.2.1 w (by simp [hw]), hS1, cf.2.2.2.2.2⟩
        · unfold sx_up; split
          · exact hvi
          · exact hR.2.2.2.2.2.1 _ _
        · rw [sx_E_obj (by rw [hs1]; have := (sx_cls_ok hq).1; omega), hs1, hs2]
          congr 2
          refine so_setmap ?_ (fun j hj => ?_)
          · rw [show sx_up σ (k0 + 1) fk v (k0 + 1) fk = v by simp [sx_up]]
            exact sx_fv_int (hf.imp id (fun z => z.1)) _ _
          · rw [show sx_up σ (k0 + 1) fk v (k0 + 1) j = σ (k0 + 1) j by simp [sx_up]; intro z; omega]
      rcases hfin with hfin | ⟨hfin, hnm, hci⟩
      · exact va_put (C := q.1) (T := q.2.1) (N := q.2.2) cx.1 cx.2.1 cx.2.2.2.2.2.2.2.1 (sx_cls_ok hq).2.2.2.1 (sx_ty ci) (sx_cls_ok hq).2.1 (sx_cls_ok hq).2.2.1 cx.2.2.2.2.2.2.1 cx.2.2.2.2.2.2.2.2.1.2.2.1 hR.1 hR.2.1 cf.2.2.2.2.1 k0 hws (by rw [hq]) fk hk hlink' (fun _ z => z) (by simpa [sx_fin, hq] using hfin) t1 t2 t3 (by simpa using hk) hd fin
      · have hmi : 1 ≤ mi ∧ mi < 287 := by
          rcases hm0 with rfl | z
          · exact absurd hnm (by decide +kernel)
          · exact z
        have hown : (q.2.1 fk).1 = sx_ow (sx_oi mi) := by
          obtain ⟨-, o1, -, -, -, o2⟩ := sx_mt_ok hmi.1 hmi.2
          rw [hci, hq] at o2
          have hlt := (sx_cls_ok hq).1
          rcases o2 with o2 | o2
          · omega
          · rw [hdecl, ← o1]; exact Option.some.inj o2
        exact va_putF (C := q.1) (T := q.2.1) (N := q.2.2) cx.1 cx.2.1 cx.2.2.2.2.2.2.2.1 (sx_cls_ok hq).2.2.2.1 (sx_ty ci) (sx_cls_ok hq).2.1 (sx_cls_ok hq).2.2.1 cx.2.2.2.2.2.2.1 cx.2.2.2.2.2.2.2.2.1.2.2.1 hR.1 hR.2.1 cf.2.2.2.2.1 k0 hws (by rw [hq]) fk hk hlink' (fun _ z => z) (by simpa [sx_fin, hq] using hfin) (by rw [cx.2.2.2.2.2.1]; exact hnm) hown t1 t2 t3 (by simpa using hk) hd fin
    · cases h
  · rename_i ci fk ps v a st1 hlk
    obtain ⟨q, hq, hk, hlink, -⟩ := so_lk0 hlk
    split at h
    · rename_i hc
      obtain ⟨hkd, hf, hfin, hvi⟩ := hc
      cases h
      intro ad ws H locs ls cells slots cf
      have hR := cf.1
      obtain ⟨k0, sh, rfl, hT, hs1, hs2, hs3, hs4, hws⟩ := hR.obj hkd hq
      have hlink' := sx_tb cx.2.2.2.2.2.2.2.1 hlink rfl
      have hty : sx_ty ci fk = .long := by
        unfold sx_fk at hf
        split at hf <;> rename_i e <;> first | exact e | (exfalso; omega)
      have t1 := (sx_cls_ok hq).2.1 fk hk
      rw [hty] at t1
      refine va_put (C := q.1) (T := q.2.1) (N := q.2.2) (v := .long (Int64.ofInt v)) (ty := .long) cx.1 cx.2.1 cx.2.2.2.2.2.2.2.1 (sx_cls_ok hq).2.2.2.1 (sx_ty ci) (sx_cls_ok hq).2.1 (sx_cls_ok hq).2.2.1 cx.2.2.2.2.2.2.1 cx.2.2.2.2.2.2.2.2.1.2.2.1 hR.1 hR.2.1 cf.2.2.2.2.1 k0 hws (by rw [hq]) fk hk hlink' (fun _ z => z) (by simpa [sx_fin, hq] using hfin) t1 rfl rfl (by simpa using hk) hd (fun H1 locs1 hP1 hD1 hS1 => ?_)
      refine k ad _ H1 locs1 ls cells slots ⟨hR.upd hT (σ' := sx_up σ (k0 + 1) fk v) (fun k hk j => by simp [sx_up, hk]) (fun j => ?_) ?_ hP1 hD1, cf.2.1, cf.2.2.1, fun w hw => cf.2.2.2.1 w (by simp [hw]), hS1, cf.2.2.2.2.2⟩
      · unfold sx_up; split
        · exact hvi
        · exact hR.2.2.2.2.2.1 _ _
      · rw [sx_E_obj (by rw [hs1]; have := (sx_cls_ok hq).1; omega), hs1, hs2]
        congr 2
        refine so_setmap ?_ (fun j hj => ?_)
        · rw [show sx_up σ (k0 + 1) fk v (k0 + 1) fk = v by simp [sx_up]]
          exact sx_fv_long hf _ _
        · rw [show sx_up σ (k0 + 1) fk v (k0 + 1) j = σ (k0 + 1) j by simp [sx_up]; intro z; omega]
    · cases h
  · rename_i ci fk ps t a st1 hlk
    obtain ⟨q, hq, hk, hlink, hdecl⟩ := so_lk0 hlk
    split at h
    · rename_i hc
      obtain ⟨hkd, hf, hfin, hnm, hci, htl⟩ := hc
      cases h
      intro ad ws H locs ls cells slots cf
      have hR := cf.1
      obtain ⟨k0, sh, rfl, hT, hs1, hs2, hs3, hs4, hws⟩ := hR.obj hkd hq
      have hlink' := sx_tb cx.2.2.2.2.2.2.2.1 hlink rfl
      have t1 := (sx_cls_ok hq).2.1 fk hk
      have hmi : 1 ≤ mi ∧ mi < 287 := by
        rcases hm0 with rfl | z
        · exact absurd hnm (by decide +kernel)
        · exact z
      have hown : (q.2.1 fk).1 = sx_ow (sx_oi mi) := by
        obtain ⟨-, o1, -, -, -, o2⟩ := sx_mt_ok hmi.1 hmi.2
        rw [hci, hq] at o2
        have hlt := (sx_cls_ok hq).1
        rcases o2 with o2 | o2
        · omega
        · rw [hdecl, ← o1]; exact Option.some.inj o2
      have t2 : narrow (sx_ty ci fk) (.ref (ad t)) = .ref (ad t) ∧ fits (sx_ty ci fk) (.ref (ad t)) = true := by
        unfold sx_fk at hf
        split at hf <;> rename_i e <;> first | (rw [e]; exact ⟨rfl, rfl⟩) | (exfalso; omega)
      refine va_putF (C := q.1) (T := q.2.1) (N := q.2.2) (v := .ref (ad t)) cx.1 cx.2.1 cx.2.2.2.2.2.2.2.1 (sx_cls_ok hq).2.2.2.1 (sx_ty ci) (sx_cls_ok hq).2.1 (sx_cls_ok hq).2.2.1 cx.2.2.2.2.2.2.1 cx.2.2.2.2.2.2.2.2.1.2.2.1 hR.1 hR.2.1 cf.2.2.2.2.1 k0 hws (by rw [hq]) fk hk hlink' (fun _ z => z) (by simpa [sx_fin, hq] using hfin) (by rw [cx.2.2.2.2.2.1]; exact hnm) hown t1 t2.1 t2.2 (by simpa using hk) hd (fun H1 locs1 hP1 hD1 hS1 => ?_)
      have hl : (sx_setR T (k0 + 1) fk t).length = T.length := by unfold sx_setR; rw [List.length_modify]
      have hsl : sx_sl (sx_setR T (k0 + 1) fk t) = sx_sl T := by
        unfold sx_sl sx_setR
        rw [show List.map (fun sh => sh.2.1) (T.modify (k0 + 1) (fun sh => (sh.1, sh.2.1, sh.2.2.set fk (some t)))) = List.map (fun sh => sh.2.1) T from ?_]
        apply List.ext_getElem?
        intro j
        rw [List.getElem?_map, List.getElem?_modify, List.getElem?_map]
        cases T[j]? with
        | none => rfl
        | some z => simp; split <;> rfl
      refine k ad _ H1 locs1 ls cells slots ⟨hR.updT hT htl ?_ hP1 hD1, cf.2.1, by rw [hl]; exact cf.2.2.1, fun w hw => by rw [hl]; exact cf.2.2.2.1 w (by simp [hw]), hS1, by rw [hl]; exact cf.2.2.2.2.2.1, by rw [hsl]; exact cf.2.2.2.2.2.2.1, cf.2.2.2.2.2.2.2⟩
      rw [sx_E_obj (by show sh.1 < 20; rw [hs1]; have := (sx_cls_ok hq).1; omega)]
      simp only [hs1, hs2]
      congr 2
      refine so_setmap ?_ (fun j hj => ?_)
      · rw [sx_fv_ref hf, List.getD_eq_getElem?_getD, List.getElem?_set_self (by omega)]
        rfl
      · rw [List.getD_eq_getElem?_getD, List.getElem?_set_ne (fun z => hj z.symm), ← List.getD_eq_getElem?_getD]
    · cases h
  · cases h
theorem so_aloadI {kd : Nat} (cx : sx_Cx g ad0 mi p R s m args meth c) (hkd : (kd = 20 ∧ decode (sx_cod mi) pc = .ok (.iaload, 1)) ∨ (kd = 21 ∧ decode (sx_cod mi) pc = .ok (.baload, 1))) (h : sx_aload mi pc kd L st T σ = some (.inl (pc', L', st', T', σ'))) (k : sx_Go g ad0 mi p l e R s m args below meth c Q e1 e2 pc' L' st' T' σ') : sx_Go g ad0 mi p l e R s m args below meth c Q e1 e2 pc L st T σ := by
  unfold sx_aload at h
  split at h
  · rename_i i a st1
    split at h
    · rename_i hc
      obtain ⟨hk, h0, hn⟩ := hc
      cases h
      intro ad ws H locs ls cells slots cf
      have hR := cf.1
      have hi : inI i := cf.2.2.2.1 (vI i) (by simp)
      have hcl := sn_clamp h0 hi
      have hcast : ((i.toNat : Nat) : Int) = i := Int.toNat_of_nonneg h0
      have kk := k ad ws H locs ls cells slots (cf.st (by
            intro w hw
            rcases List.mem_cons.mp hw with rfl | hw
            · exact hR.2.2.2.2.2.1 _ _
            · exact cf.2.2.2.1 w (by simp [hw])))
      have hK := cx.2.2.2.2.2.2.2.2.1.2.2.1
      rcases hk with hk | ⟨hk, rfl, rfl, rfl⟩
      · obtain ⟨k0, sh, rfl, hT, hs1, hs2, hs3, -, hs4, hws⟩ := hR.arr hk (by omega) (by omega)
        rw [hs2] at hn
        rcases hkd with ⟨rfl, hd⟩ | ⟨rfl, hd⟩
        · have hE : sx_E g ad (k0 + 1) sh σ = .inl (g.2.2.1, sh.2.1, .inl (fun j => Int32.ofInt (σ (k0 + 1) (j : Int)))) := by unfold sx_E; rw [if_pos hs1]
          rw [hE] at hws
          refine va_iald cx.1 cx.2.1 hK hR.1 k0 0 hws rfl (sn_vin h0 hn hi) hd ?_
          rw [hcl]
          simp only [hcast]
          exact kk
        · have hE : sx_E g ad (k0 + 1) sh σ = .inl (g.2.2.2.1, sh.2.1, .inl (fun j => Int32.ofInt (σ (k0 + 1) (j : Int)))) := by unfold sx_E; rw [if_neg (by omega), if_pos hs1]
          rw [hE] at hws
          refine va_zald cx.1 cx.2.1 hK hR.1 k0 1 hws rfl (sn_vin h0 hn hi) hd ?_
          rw [hcl]
          simp only [hcast]
          exact kk
      · obtain ⟨-, -, -, -, -, -, -, hT0, hscr⟩ := hR
        rw [sx_ln_of hT0] at hn
        have hd : decode (sx_cod 0) pc = .ok (.iaload, 1) := by
          rcases hkd with ⟨-, hd⟩ | ⟨hd, -⟩
          · exact hd
          · cases hd
        obtain ⟨x1, x2, x3, -⟩ := cx.2.2.2.2.2.2.2.2.2.2.2 rfl
        have hz : ad 0 = ad0 0 := cf.2.2.2.2.2.2.2.1 0 (Or.inl cf.2.2.2.2.2.2.2.2)
        show W p l e R s m args below meth c H locs cells slots Q (F0 m pc ls (.int (Int32.ofInt i) :: .ref (ad 0) :: List.map (sx_rv ad) st1))
        rw [hz]
        refine va_sld cx.1 cx.2.1 x1 x2 x3 cf.2.2.2.2.1 (sn_vin h0 hn hi) hd ?_
        rw [hcl]
        have hval := hscr i.toNat (by simp only at hn; omega)
        rw [hcast] at hval
        rw [show g.2.2.2.2.2.2 i.toNat = Int32.ofInt (σ 0 i) by rw [hval, Int32.ofInt_toInt]]
        exact kk
    · cases h
  · cases h
theorem so_astoreI {kd : Nat} (cx : sx_Cx g ad0 mi p R s m args meth c) (hkd : (kd = 20 ∧ decode (sx_cod mi) pc = .ok (.iastore, 1)) ∨ (kd = 21 ∧ decode (sx_cod mi) pc = .ok (.bastore, 1))) (h : sx_astore pc kd L st T σ = some (.inl (pc', L', st', T', σ'))) (k : sx_Go g ad0 mi p l e R s m args below meth c Q e1 e2 pc' L' st' T' σ') : sx_Go g ad0 mi p l e R s m args below meth c Q e1 e2 pc L st T σ := by
  unfold sx_astore at h
  split at h
  · rename_i v i a st1
    split at h
    · rename_i hc
      obtain ⟨hk, h0, hn, hv⟩ := hc
      cases h
      intro ad ws H locs ls cells slots cf
      have hR := cf.1
      have hi : inI i := cf.2.2.2.1 (vI i) (by simp)
      have hvi : inI v := cf.2.2.2.1 (vI v) (by simp)
      have hcl := sn_clamp h0 hi
      have hcast : ((i.toNat : Nat) : Int) = i := Int.toNat_of_nonneg h0
      have hK := cx.2.2.2.2.2.2.2.2.1.2.2.1
      obtain ⟨k0, sh, rfl, hT, hs1, hs2, hs3, -, hs4, hws⟩ := hR.arr hk (by omega) (by omega)
      rw [hs2] at hn
      have hup : ∀ w : Int32, w = Int32.ofInt v → upd (fun j => Int32.ofInt (σ (k0 + 1) (j : Int))) i.toNat w = (fun j : Nat => Int32.ofInt (sx_up σ (k0 + 1) i v (k0 + 1) (j : Int))) := by
        intro w hw
        funext j
        unfold upd sx_up
        by_cases e : j = i.toNat
        · rw [if_pos e, if_pos ⟨rfl, by omega⟩, hw]
        · rw [if_neg e, if_neg (fun z => e (by omega))]
      have fin : ∀ (x : va_E) (H1 : Heap) (locs1 : List Loc), x = sx_E g ad (k0 + 1) sh (sx_up σ (k0 + 1) i v) → va_P g.2.1 sx_cls (ws.set k0 (ad (k0 + 1), x)) H1 → va_D (sx_A g) (ws.set k0 (ad (k0 + 1), x)) → va_S (sx_A g) s.heap H1 locs1 → W p l e R s m args below meth c H1 locs1 cells slots Q (F0 m (pc + 1) ls (List.map (sx_rv ad) st')) := by
        intro x H1 locs1 hx hP1 hD1 hS1
        refine k ad _ H1 locs1 ls cells slots ⟨hR.upd hT (fun k hk j => by simp [sx_up, hk]) (fun j => ?_) hx hP1 hD1, cf.2.1, cf.2.2.1, fun w hw => cf.2.2.2.1 w (by simp [hw]), hS1, cf.2.2.2.2.2⟩
        unfold sx_up; split
        · exact hvi
        · exact hR.2.2.2.2.2.1 _ _
      rcases hkd with ⟨rfl, hd⟩ | ⟨rfl, hd⟩
      · have hE : ∀ τ : sxS, sx_E g ad (k0 + 1) sh τ = .inl (g.2.2.1, sh.2.1, .inl (fun j => Int32.ofInt (τ (k0 + 1) (j : Int)))) := by intro τ; unfold sx_E; rw [if_pos hs1]
        rw [hE] at hws
        refine va_iast cx.1 cx.2.1 hK hR.1 hR.2.1 cf.2.2.2.2.1 k0 0 hws rfl (sn_vin h0 hn hi) hd (fun H1 locs1 hP1 hD1 hS1 => fin _ H1 locs1 ?_ hP1 hD1 hS1)
        rw [hE, hcl, hup _ rfl]
      · have hE : ∀ τ : sxS, sx_E g ad (k0 + 1) sh τ = .inl (g.2.2.2.1, sh.2.1, .inl (fun j => Int32.ofInt (τ (k0 + 1) (j : Int)))) := by intro τ; unfold sx_E; rw [if_neg (by omega), if_pos hs1]
        rw [hE] at hws
        refine va_zast cx.1 cx.2.1 hK hR.1 hR.2.1 cf.2.2.2.2.1 k0 1 hws rfl (sn_vin h0 hn hi) hd (fun H1 locs1 hP1 hD1 hS1 => fin _ H1 locs1 ?_ hP1 hD1 hS1)
        rw [hE, hcl, hup]
        rcases hv with hv | rfl | rfl
        · omega
        · rfl
        · rfl
    · cases h
  · cases h
end SO2
