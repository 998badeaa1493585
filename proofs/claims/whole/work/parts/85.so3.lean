/-! references in arrays, new cells, the JDK's own -/
section SO3
variable {g : sxG} {ad0 : Nat → Nat} {mi : Nat} {p : Program} {l : Launch} {e : Env} {R : Room} {s : State} {m : MethodId} {args : Array Value} {below : List Frame} {meth : Method} {c : Code} {Q : State → Prop} {e1 e2 pc : Nat} {L : sxL} {st : List sxV} {T : sxT} {σ : sxS}
variable {pc' : Nat} {L' : sxL} {st' : List sxV} {T' : sxT} {σ' : sxS}
theorem so_aaload (cx : sx_Cx g ad0 mi p R s m args meth c) (hd : decode (sx_cod mi) pc = .ok (.aaload, 1)) (h : sx_do mi pc L T σ .aaload st = some (.inl (pc', L', st', T', σ'))) (k : sx_Go g ad0 mi p l e R s m args below meth c Q e1 e2 pc' L' st' T' σ') : sx_Go g ad0 mi p l e R s m args below meth c Q e1 e2 pc L st T σ := by
  simp only [sx_do] at h
  split at h
  · rename_i i a st1
    split at h
    · rename_i hc
      obtain ⟨hk, h0, hn⟩ := hc
      split at h
      · rename_i t ht
        cases h
        intro ad ws H locs ls cells slots cf
        have hR := cf.1
        have hi : inI i := cf.2.2.2.1 (vI i) (by simp)
        have hcl := sn_clamp h0 hi
        have hK := cx.2.2.2.2.2.2.2.2.1.2.2.1
        obtain ⟨k0, sh, rfl, hT, hs1, hs2, hs3, -, hs4, hws⟩ := hR.arr hk (by omega) (by omega)
        rw [hs2] at hn
        rw [sx_rf_of hT] at ht
        have kk := k ad ws H locs ls cells slots (cf.st (by
            intro w hw
            rcases List.mem_cons.mp hw with rfl | hw
            · exact Or.inl (hs4 _ _ ht)
            · exact cf.2.2.2.1 w (by simp [hw])))
        have hE : sx_E g ad (k0 + 1) sh σ = .inl (g.2.2.2.2.1, sh.2.1, .inr (.inr (.inr (.inr (fun j => (sh.2.2.getD j none).map ad))))) := by unfold sx_E; rw [if_neg (by omega), if_neg (by omega), if_pos hs1]
        rw [hE] at hws
        refine va_aldq cx.1 cx.2.1 hK hR.1 k0 2 hws rfl (sn_vin h0 hn hi) hd ?_
        rw [hcl, ht]
        exact kk
      · cases h
    · cases h
  · cases h
theorem sx_setR_len {a k t : Nat} : (sx_setR T a k t).length = T.length := by unfold sx_setR; rw [List.length_modify]
theorem sx_setR_sl {a k t : Nat} : sx_sl (sx_setR T a k t) = sx_sl T := by
  unfold sx_sl sx_setR
  rw [show List.map (fun sh => sh.2.1) (T.modify a (fun sh => (sh.1, sh.2.1, sh.2.2.set k (some t)))) = List.map (fun sh => sh.2.1) T from ?_]
  apply List.ext_getElem?
  intro j
  rw [List.getElem?_map, List.getElem?_modify, List.getElem?_map]
  cases T[j]? with
  | none => rfl
  | some z => simp; split <;> rfl
theorem so_aastore (cx : sx_Cx g ad0 mi p R s m args meth c) (hd : decode (sx_cod mi) pc = .ok (.aastore, 1)) (h : sx_do mi pc L T σ .aastore st = some (.inl (pc', L', st', T', σ'))) (k : sx_Go g ad0 mi p l e R s m args below meth c Q e1 e2 pc' L' st' T' σ') : sx_Go g ad0 mi p l e R s m args below meth c Q e1 e2 pc L st T σ := by
  simp only [sx_do] at h
  split at h
  · rename_i t i a st1
    split at h
    · rename_i hc
      obtain ⟨hk, h0, hn, ht⟩ := hc
      cases h
      intro ad ws H locs ls cells slots cf
      have hR := cf.1
      have hi : inI i := cf.2.2.2.1 (vI i) (by simp)
      have hcl := sn_clamp h0 hi
      have hK := cx.2.2.2.2.2.2.2.2.1.2.2.1
      obtain ⟨k0, sh, rfl, hT, hs1, hs2, hs3, hs5, hs4, hws⟩ := hR.arr hk (by omega) (by omega)
      have hq : sx_cls[2]? = some (RX3, TX3, 7) := rfl
      obtain ⟨k1, sh1, rfl, hT1, -, -, -, -, hws1⟩ := hR.obj ht hq
      rw [hs2] at hn
      have hE : sx_E g ad (k0 + 1) sh σ = .inl (g.2.2.2.2.1, sh.2.1, .inr (.inr (.inr (.inr (fun j => (sh.2.2.getD j none).map ad))))) := by unfold sx_E; rw [if_neg (by omega), if_neg (by omega), if_pos hs1]
      rw [hE] at hws
      refine va_astq (r := (RX3, TX3, 7)) cx.1 cx.2.1 hK hR.1 hR.2.1 cf.2.2.2.2.1 k0 2 k1 2 hws rfl hws1 rfl (sn_vin h0 hn hi) hd (fun H1 locs1 hP1 hD1 hS1 => ?_)
      refine k ad _ H1 locs1 ls cells slots ⟨hR.updT hT (sx_lt_of hT1) ?_ hP1 hD1, cf.2.1, by rw [sx_setR_len]; exact cf.2.2.1, fun w hw => by rw [sx_setR_len]; exact cf.2.2.2.1 w (by simp [hw]), hS1, by rw [sx_setR_len]; exact cf.2.2.2.2.2.1, by rw [sx_setR_sl]; exact cf.2.2.2.2.2.2.1, cf.2.2.2.2.2.2.2⟩
      unfold sx_E
      simp only [hs1]
      rw [if_neg (by omega), if_neg (by omega), if_pos trivial, hcl]
      refine congrArg Sum.inl (congrArg (Prod.mk _) (congrArg (Prod.mk _) (congrArg Sum.inr (congrArg Sum.inr (congrArg Sum.inr (congrArg Sum.inr (funext fun j => ?_)))))))
      unfold va_up
      by_cases z : j = i.toNat
      · rw [if_pos z, z, List.getD_eq_getElem?_getD, List.getElem?_set_self (by rw [hs5 rfl]; omega)]; rfl
      · rw [if_neg z, List.getD_eq_getElem?_getD, List.getElem?_set_ne (fun y => z y.symm)]
        simp only [List.getD_eq_getElem?_getD]
    · cases h
  · cases h
theorem so_alen (cx : sx_Cx g ad0 mi p R s m args meth c) (hd : decode (sx_cod mi) pc = .ok (.arraylength, 1)) (h : sx_do mi pc L T σ .arraylength st = some (.inl (pc', L', st', T', σ'))) (k : sx_Go g ad0 mi p l e R s m args below meth c Q e1 e2 pc' L' st' T' σ') : sx_Go g ad0 mi p l e R s m args below meth c Q e1 e2 pc L st T σ := by
  simp only [sx_do] at h
  split at h
  · rename_i a st1
    split at h
    · rename_i hc
      cases h
      intro ad ws H locs ls cells slots cf
      have hR := cf.1
      have hK := cx.2.2.2.2.2.2.2.2.1.2.2.1
      have key : ∀ n : Nat, sx_ln T a = (n : Int) → n ≤ 100000 → W p l e R s m args below meth c H locs cells slots Q (F0 m (pc + 1) ls (.int (Int32.ofInt (n : Int)) :: List.map (sx_rv ad) st1)) := by
        intro n hn hle
        rw [← hn]
        exact k ad ws H locs ls cells slots (cf.st (by
            intro w hw
            rcases List.mem_cons.mp hw with rfl | hw
            · show inI _; rw [hn]; omega
            · exact cf.2.2.2.1 w (by simp [hw])))
      rcases hc with hk | hk | ⟨hk, rfl, rfl⟩
      · obtain ⟨k0, sh, rfl, hT, hs1, hs2, hs3, -, hs4, hws⟩ := hR.arr hk (by omega) (by omega)
        have hE : sx_E g ad (k0 + 1) sh σ = .inl (g.2.2.1, sh.2.1, .inl (fun j => Int32.ofInt (σ (k0 + 1) (j : Int)))) := by unfold sx_E; rw [if_pos hs1]
        rw [hE] at hws
        exact va_alen cx.1 cx.2.1 hK hR.1 k0 0 hws (ty := .int) rfl rfl hd (key _ hs2 hs3)
      · obtain ⟨k0, sh, rfl, hT, hs1, hs2, hs3, -, hs4, hws⟩ := hR.arr hk (by omega) (by omega)
        have hE : sx_E g ad (k0 + 1) sh σ = .inl (g.2.2.2.1, sh.2.1, .inl (fun j => Int32.ofInt (σ (k0 + 1) (j : Int)))) := by unfold sx_E; rw [if_neg (by omega), if_pos hs1]
        rw [hE] at hws
        exact va_alen cx.1 cx.2.1 hK hR.1 k0 1 hws (ty := .boolean) rfl rfl hd (key _ hs2 hs3)
      · obtain ⟨x1, x2, x3, x4⟩ := cx.2.2.2.2.2.2.2.2.2.2.2 rfl
        have hz : ad 0 = ad0 0 := cf.2.2.2.2.2.2.2.1 0 (Or.inl cf.2.2.2.2.2.2.2.2)
        show W p l e R s m args below meth c H locs cells slots Q (F0 m pc ls (.ref (ad 0) :: List.map (sx_rv ad) st1))
        rw [hz]
        exact va_slen cx.1 cx.2.1 x1 x2 x3 cf.2.2.2.2.1 hd (key _ (sx_ln_of hR.2.2.2.2.2.2.2.1) x4)
    · cases h
  · cases h
theorem sx_fk_ok {ci : Nat} {q : vw_C} (hq : sx_cls[ci]? = some q) {j : Nat} (hj : j < q.2.2) : sx_fk ci j ≠ 4 := by
  rcases ci with _ | _ | _ | _ | _ | _ | _ | _ | _ | _ | n
  · cases hq; exact (by decide : ∀ j, j < 3 → sx_fk 0 j ≠ 4) j hj
  · cases hq; exact (by decide : ∀ j, j < 2 → sx_fk 1 j ≠ 4) j hj
  · cases hq; exact (by decide : ∀ j, j < 7 → sx_fk 2 j ≠ 4) j hj
  · cases hq; exact (by decide : ∀ j, j < 12 → sx_fk 3 j ≠ 4) j hj
  · cases hq; exact (by decide : ∀ j, j < 6 → sx_fk 4 j ≠ 4) j hj
  · cases hq; exact (by decide : ∀ j, j < 9 → sx_fk 5 j ≠ 4) j hj
  · cases hq; exact (by decide : ∀ j, j < 2 → sx_fk 6 j ≠ 4) j hj
  · cases hq; exact (by decide : ∀ j, j < 9 → sx_fk 7 j ≠ 4) j hj
  · cases hq; exact (by decide : ∀ j, j < 12 → sx_fk 8 j ≠ 4) j hj
  · cases hq; exact (by decide : ∀ j, j < 42 → sx_fk 9 j ≠ 4) j hj
  · exact absurd hq (by simp [sx_cls])
theorem so_new {idx : Nat} (cx : sx_Cx g ad0 mi p R s m args meth c) (hd : decode (sx_cod mi) pc = .ok (.new idx, 3)) (h : sx_newo mi pc idx L st T σ = some (.inl (pc', L', st', T', σ'))) (hc1 : T'.length ≤ e1 + R.cells) (hc2 : sx_sl T' ≤ e2 + R.slots) (k : sx_Go g ad0 mi p l e R s m args below meth c Q e1 e2 pc' L' st' T' σ') : sx_Go g ad0 mi p l e R s m args below meth c Q e1 e2 pc L st T σ := by
  unfold sx_newo at h
  split at h
  · rename_i ci b ps hlk
    have h1 := sx_lk_ok hlk
    split at h
    · rename_i q hq
      split at h
      · rename_i hTl
        cases h
        obtain ⟨w1, w2, w3⟩ : Cond.classLink (sx_ow (sx_oi mi)) idx q.1 ∈ lw_tbl ∧ Cond.instantiable q.1 q.2.2 ∈ lw_tbl ∧ Cond.initialized q.1 ∈ lw_tbl := by
          unfold sx_lkok at h1
          split at h1 <;> rename_i e <;> first | (cases e; done) | skip
          · cases e
            rw [hq] at h1
            simp only [Bool.and_eq_true] at h1
            exact ⟨sx_at_mem h1.1.1.1, sx_at_mem h1.1.1.2, sx_at_mem h1.1.2⟩
          all_goals first | (cases e; done) | cases h1
        have hts := cx.2.2.2.2.2.2.2.1
        intro ad ws H locs ls cells slots cf
        have hR := cf.1
        have hK := cx.2.2.2.2.2.2.2.2.1.2.2.1
        have hA : ∀ z : Nat, s.heap.size ≤ z → sx_A g z := fun z hz => Nat.le_trans cx.2.2.2.2.2.2.2.2.1.2.2.2.2.2 hz
        have hlen : (T ++ [(ci, q.2.2, List.replicate q.2.2 none)]).length = T.length + 1 := by simp
        have hsl : sx_sl (T ++ [(ci, q.2.2, List.replicate q.2.2 none)]) = sx_sl T + q.2.2 := by simp [sx_sl]
        rw [hlen] at hc1
        rw [hsl] at hc2
        have e5 := cf.2.2.2.2.2.1
        have e6 := cf.2.2.2.2.2.2.1
        have hcl := sx_cls_ok hq
        have hgn : ∀ j : Nat, (List.replicate q.2.2 (none : Option Nat)).getD j none = none := by
          intro j
          rw [List.getD_eq_getElem?_getD, List.getElem?_replicate]
          split <;> rfl
        refine va_new (C := q.1) (T := q.2.1) (N := q.2.2) (ci := ci) (fs := (List.range q.2.2).map (fun j => sx_fv (sx_ty ci j) 0 none)) cx.1 cx.2.1 hts hcl.2.2.2.1 (sx_ty ci) hcl.2.1 cx.2.2.2.2.2.2.1 (sx_tb hts w1 rfl) (sx_tb hts w2 rfl) (sx_tb hts w3 rfl) hK hR.1 hR.2.1 cf.2.2.2.2.1 hA (by rw [hq]) (fun j hj => ?_) (by omega) (by omega) hd (fun a H1 hP1 hD1 hS1 => ?_)
        · unfold vp_V
          rw [List.getD_eq_getElem?_getD, List.getElem?_map, List.getElem?_range hj]
          show defaultValue _ = sx_fv _ 0 none
          have h4 := sx_fk_ok hq hj
          unfold sx_fk at h4
          split at h4 <;> rename_i ety <;> first | (rw [ety]; rfl) | exact absurd rfl h4
        · have hag : sx_ag T.length ad (fun z => if z = T.length then a else ad z) := fun z hz => if_neg (by omega)
          have hRn := hR.push (sh := (ci, q.2.2, List.replicate q.2.2 none)) hTl ⟨fun j t hj => (by rw [hgn] at hj; cases hj), Or.inr ⟨q, hq, rfl, by simp⟩, by have := hcl.2.2.2.2; show q.2.2 ≤ 100000; omega⟩ ?_ hP1 hD1
          · have kk := k (fun z => if z = T.length then a else ad z) _ H1 locs ls (cells + 1) (slots + q.2.2) ⟨hRn, ⟨cf.2.1.1, cf.2.1.2.1, cf.2.1.2.2.1, fun i v hv => by rw [sx_rv_ag hag (cf.2.2.1 i v hv).1]; exact cf.2.1.2.2.2 i v hv⟩, fun i v hv => ⟨(cf.2.2.1 i v hv).1.up (by omega), (cf.2.2.1 i v hv).2⟩, fun w hw => by
              rcases List.mem_cons.mp hw with rfl | hw
              · exact Or.inl (by omega)
              · exact (cf.2.2.2.1 w hw).up (by omega), hS1, by rw [hlen]; omega, by rw [hsl]; omega, cf.2.2.2.2.2.2.2.1.tr hag (by omega), cf.2.2.2.2.2.2.2.2⟩
            have hst : List.map (sx_rv (fun z => if z = T.length then a else ad z)) (vR T.length :: st) = .ref a :: List.map (sx_rv ad) st := by
              rw [List.map_cons]
              congr 1
              · show Value.ref (if T.length = T.length then a else ad T.length) = _
                rw [if_pos rfl]
              · exact List.map_congr_left fun v hv => sx_rv_ag hag (cf.2.2.2.1 v hv)
            rw [hst] at kk
            exact kk
          · rw [sx_E_obj (by show ci < 20; omega)]
            congr 2
            refine List.map_congr_left fun j _ => ?_
            show _ = sx_fv (sx_ty ci j) (σ T.length j) _
            rw [hR.2.2.2.2.2.2.1 _ _ (Nat.le_refl _), hgn]
            rfl
      · cases h
    · cases h
  · cases h
end SO3
