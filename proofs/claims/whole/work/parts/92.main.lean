/-! a run of the plain machine is one of the machine -/
def sx_Pc (g : sxG) (ad : Nat → Nat) (vs : List sxV) (T : sxT) (σ : sxS) : Array Value → State → Prop := fun a U => a = (vs.map (sx_rv ad)).toArray ∧ sx_Wd g ad U ∧ ∃ ws, sx_Rel g ad T σ ws U.heap
def sx_Qc (g : sxG) (ad : Nat → Nat) (n0 : Nat) (r : Option sxV) (T' : sxT) (σ' : sxS) : Array Value → State → Outcome → State → Prop := fun _ st oc t => (∃ ad' ws', oc = .returned (r.map (sx_rv ad')) ∧ sx_ag n0 ad ad' ∧ sx_Rel g ad' T' σ' ws' t.heap ∧ ∀ v, r = some v → sx_okV T'.length v) ∧ va_F (sx_A g) st t
def sx_wsm (cm : Nat) : List Cond := Cond.code (sx_y cm) (sx_cod cm) (sx_mx cm) (sx_rt cm) :: sx_gw
def sx_rm (cm mc ms : Nat) : Room := { frames := sx_fr cm, cells := mc, slots := ms, locals := sx_lo cm }
def sx_Sd (l : Launch) (n : Nat) : Prop := ∀ (g : sxG) (ad0 : Nat → Nat) (mi pc : Nat) (L : sxL) (st : List sxV) (T : sxT) (σ : sxS) (r : Option sxV) (T' : sxT) (σ' : sxS), sx_sim n mi pc L st T σ = some (r, T', σ') → (mi = 0 ∨ (1 ≤ mi ∧ mi < 287)) → ∀ (p : Program) (e : Env) (R : Room) (s : State) (m : MethodId) (args : Array Value) (below : List Frame) (meth : Method) (c : Code) (Q : State → Prop) (e1 e2 : Nat), sx_Cx g ad0 mi p R s m args meth c → T'.length ≤ e1 + R.cells → sx_sl T' ≤ e2 + R.slots → (∀ pc L st, sx_exec mi pc L st T' σ' = some (.inr (.inr r)) → sx_Go g ad0 mi p l e R s m args below meth c Q e1 e2 pc L st T' σ') → sx_Go g ad0 mi p l e R s m args below meth c Q e1 e2 pc L st T σ
theorem mn_args : ∀ (vs : List Value) (k i : Nat) (v : Value), (∀ w ∈ vs, w.category = 1) → vs[i]? = some v → (k + i, v) ∈ lv_args k vs := by
  intro vs
  induction vs with
  | nil => intro k i v _ h; simp at h
  | cons w vs ih =>
    intro k i v hc h
    have hw := hc w List.mem_cons_self
    unfold lv_args
    cases i with
    | zero =>
      simp at h
      subst h
      exact List.mem_cons_self
    | succ i =>
      refine List.mem_cons_of_mem _ ?_
      rw [if_neg (by omega)]
      have := ih (k + 1) i v (fun z hz => hc z (List.mem_cons_of_mem _ hz)) (by simpa using h)
      rw [show k + 1 + i = k + (i + 1) by omega] at this
      exact this
theorem mn_sl : ∀ (vs : List Value), (∀ w ∈ vs, w.category = 1) → (lg_sl vs).length = vs.length := by
  intro vs
  induction vs with
  | nil => intro _; rfl
  | cons w vs ih =>
    intro hc
    have := ih (fun z hz => hc z (List.mem_cons_of_mem _ hz))
    have hw := hc w List.mem_cons_self
    unfold lg_sl at this ⊢
    rw [List.flatMap_cons, List.length_append, this, if_neg (by omega), List.length_cons]
    simp
    omega
theorem mn_entry {ad : Nat → Nat} {cm : Nat} {vs : List sxV} (hn : vs.length ≤ sx_mx cm) (hj : ∀ v ∈ vs, sx_nJ v = true) : sx_HL ad (sx_ent cm vs) ((lg_sl (vs.map (sx_rv ad)) ++ List.replicate (sx_mx cm - (lg_sl (vs.map (sx_rv ad))).length) Slot.unset).toArray) (sx_mx cm) := by
  have hc : ∀ w ∈ vs.map (sx_rv ad), w.category = 1 := by
    intro w hw
    obtain ⟨v, hv, rfl⟩ := List.mem_map.mp hw
    exact sx_rv_cat (hj v hv)
  have hl := mn_sl _ hc
  have he := lv_entry (vs.map (sx_rv ad)) (n := sx_mx cm) (by rw [hl, List.length_map]; exact hn)
  refine ⟨by unfold sx_ent; simp; omega, he.1, he.2.1, fun i v hv => ?_⟩
  have h1 : (vs.map (sx_rv ad))[i]? = some (sx_rv ad v) := by
    unfold sx_ent at hv
    rcases Nat.lt_or_ge i vs.length with q | q
    · rw [List.getElem?_append_left (by simpa using q), List.getElem?_map] at hv
      rw [List.getElem?_map]
      cases hz : vs[i]? with
      | none => rw [hz] at hv; cases hv
      | some z => rw [hz] at hv; cases hv; rfl
    · rw [List.getElem?_append_right (by simpa using q), List.getElem?_replicate] at hv
      split at hv <;> cases hv
  have h2 := mn_args _ 0 i _ hc h1
  rw [Nat.zero_add] at h2
  exact he.2.2 _ h2
theorem sx_Met {l : Launch} {n : Nat} (ih : sx_Sd l n) {g : sxG} {ad : Nat → Nat} {cm : Nat} {vs : List sxV} {T : sxT} {σ : sxS} {r : Option sxV} {T' : sxT} {σ' : sxS} (h1 : 1 ≤ cm) (h2 : cm < 287) (hs : sx_sim n cm 0 (sx_ent cm vs) [] T σ = some (r, T', σ')) (hv : ∀ v ∈ vs, sx_okV T.length v ∧ sx_nJ v = true) (hn : vs.length ≤ sx_mx cm) : Met l (sx_y cm) (sx_wsm cm) (sx_rm cm (T'.length - T.length) (sx_sl T' - sx_sl T)) (sx_Pc g ad vs T σ) (sx_Qc g ad T.length r T' σ') (T'.length - T.length) (sx_sl T' - sx_sl T) (sx_A g) := by
  have hmt := sx_mt_ok h1 h2
  refine Met.ofW (cc := sx_cod cm) (maxL := sx_mx cm) (ret := sx_rt cm) hmt.2.2.1 rfl ?_
  intro p e s m args below meth c s₁ B hml hpc
  obtain ⟨rfl, hWd, ws, hR⟩ := hpc
  have hts := atoms_spec (ws := sx_wsm cm) B.pre
  have hown : s.vm.findClass (sx_y cm).cls = some m.cls := findClass_of_methodNamed B.named
  have cx : sx_Cx g ad cm p (sx_rm cm (T'.length - T.length) (sx_sl T' - sx_sl T)) s m (vs.map (sx_rv ad)).toArray meth c := ⟨B.exec, B.bytes, hml, B.returns, B.notSynchronized, (name_of_methodNamed B.named B.method).1, by rw [← hmt.2.1]; exact hown, fun w hw => hts w (List.mem_cons_of_mem _ hw), hWd, Nat.le_refl _, Nat.le_refl _, fun z => by omega⟩
  have hmono := mt_sim _ _ _ _ _ _ _ _ _ _ hs
  rw [lg_entry_eq]
  have go := ih g ad cm 0 (sx_ent cm vs) [] T σ r T' σ' hs (Or.inr ⟨h1, h2⟩) p e (sx_rm cm (T'.length - T.length) (sx_sl T' - sx_sl T)) s m (vs.map (sx_rv ad)).toArray below meth c (MQ below (sx_Qc g ad T.length r T' σ') (vs.map (sx_rv ad)).toArray s (T'.length - T.length) (sx_sl T' - sx_sl T) (sx_A g)) T.length (sx_sl T) cx (by show _ ≤ T.length + (T'.length - T.length); omega) (by show _ ≤ sx_sl T + (sx_sl T' - sx_sl T); omega) ?_
  · refine go ad ws s.heap [] _ 0 0 ⟨hR, mn_entry hn (fun v hh => (hv v hh).2), ?_, fun v hh => absurd hh List.not_mem_nil, va_S.rf, Nat.zero_add _, Nat.zero_add _, sx_ag.rf, ?_⟩
    · intro i v hi
      unfold sx_ent at hi
      rcases Nat.lt_or_ge i vs.length with q | q
      · rw [List.getElem?_append_left (by simpa using q), List.getElem?_map] at hi
        cases hz : vs[i]? with
        | none => rw [hz] at hi; cases hi
        | some z => rw [hz] at hi; cases hi; exact hv _ (List.mem_of_getElem? hz)
      · rw [List.getElem?_append_right (by simpa using q), List.getElem?_replicate] at hi
        split at hi <;> cases hi
    · have := sx_lt_of hR.2.2.2.2.2.2.2.1
      omega
  · intro pc L st hx ad' ws' H locs ls cells slots cf
    have hcells : cells = T'.length - T.length := by have := cf.2.2.2.2.2.1; omega
    have hslots : slots = sx_sl T' - sx_sl T := by have := cf.2.2.2.2.2.2.1; omega
    subst hcells
    subst hslots
    have hS := cf.2.2.2.2.1
    rcases cr_ret hx with ⟨hd, v, rfl, rfl, hr⟩ | ⟨hd, rfl, rfl, hr⟩
    · have hok := cf.2.2.2.1
      have hq : ∀ t : State, t.heap = H → s.WarmedH t.vm → sx_Qc g ad T.length (some (vI v)) T' σ' (vs.map (sx_rv ad)).toArray s (.returned (some (.int (Int32.ofInt v)))) t := fun t ht _ => ⟨⟨ad', ws', rfl, cf.2.2.2.2.2.2.2.1, by rw [ht]; exact cf.1, fun w hw => by cases hw; exact hok _ (by simp)⟩, hS.F ht⟩
      rcases hr with hr | ⟨hr, hb⟩
      · exact W.iret B.exec B.bytes (by rw [B.returns, hr]) hq hS.2.2 hd B.notSynchronized
      · exact W.zret (ty := .boolean) B.exec B.bytes (by rw [B.returns, hr]) (by rcases hb with rfl | rfl <;> rfl) hq hS.2.2 hd B.notSynchronized
    · exact W.vret B.exec B.bytes (by rw [B.returns, hr]) (fun t ht _ => ⟨⟨ad', ws', rfl, cf.2.2.2.2.2.2.2.1, by rw [ht]; exact cf.1, fun w hw => by cases hw⟩, hS.F ht⟩) hS.2.2 hd B.notSynchronized
section MN
variable {g : sxG} {ad0 : Nat → Nat} {mi : Nat} {p : Program} {l : Launch} {e : Env} {R : Room} {s : State} {m : MethodId} {args : Array Value} {below : List Frame} {meth : Method} {c : Code} {Q : State → Prop} {e1 e2 pc : Nat} {L : sxL} {st : List sxV} {T : sxT} {σ : sxS}
variable {T' : sxT} {σ' : sxS} {r : Option sxV}
/-- behind a call -/
theorem mn_run {ad : Nat → Nat} {ws : va_W} {H : Heap} {locs : List Loc} {ls : Array Slot} {cells slots : Nat} {st' : List sxV} {st0 : List Value} {a : Array Value} (cf : sx_Cf g ad0 s mi e1 e2 ad ws H locs ls cells slots L st T σ) (hst : ∀ v ∈ st', v ∈ st) (hmono : T.length ≤ T'.length ∧ sx_sl T ≤ sx_sl T') (hr : va_Run p l e R s m args below meth c H locs cells slots (T'.length - T.length) (sx_sl T' - sx_sl T) (F0 m pc ls st0) (st'.map (sx_rv ad)) (sx_Qc g ad T.length r T' σ' a) (sx_A g)) (k : sx_Go g ad0 mi p l e R s m args below meth c Q e1 e2 (pc + 3) L (sx_push r st') T' σ') : W p l e R s m args below meth c H locs cells slots Q (F0 m pc ls st0) := by
  intro T0 hT0 X
  obtain ⟨v, st₀, t, T1, L1, h0, X', hL, e3, e4, ⟨⟨ad', ws', hv, hag, hR, hok⟩, hz, hk⟩, stp⟩ := hr T0 hT0 X
  cases hv
  rw [h0] at hz hk
  have hS := cf.2.2.2.2.1
  have e5 := cf.2.2.2.2.2.1
  have e6 := cf.2.2.2.2.2.2.1
  have kk := k ad' ws' T1.heap (locs ++ L1) ls (cells + (T'.length - T.length)) (slots + (sx_sl T' - sx_sl T)) ⟨by rw [e3]; exact hR, ⟨cf.2.1.1, cf.2.1.2.1, cf.2.1.2.2.1, fun i v hv => by rw [sx_rv_ag hag (cf.2.2.1 i v hv).1]; exact cf.2.1.2.2.2 i v hv⟩, fun i v hv => ⟨(cf.2.2.1 i v hv).1.up hmono.1, (cf.2.2.1 i v hv).2⟩, ?_, ⟨Nat.le_trans hS.1 (by rw [e3]; exact hz), fun q h1 h2 => by rw [e3, hk q (Nat.lt_of_lt_of_le h1 hS.1) h2]; exact hS.2.1 q h1 h2, fun q hq => by
      rcases List.mem_append.mp hq with h | h
      · exact hS.2.2 q h
      · exact hL q h⟩, by omega, by omega, cf.2.2.2.2.2.2.2.1.tr hag (by omega), cf.2.2.2.2.2.2.2.2⟩
  · obtain ⟨t2, a1, b1⟩ := kk T1 rfl X'
    refine ⟨t2, stp t2 ?_, b1⟩
    have hstk : List.map (sx_rv ad') (sx_push r st') = (Option.map (sx_rv ad') r).toList ++ List.map (sx_rv ad) st' := by
      have hm : List.map (sx_rv ad') st' = List.map (sx_rv ad) st' := List.map_congr_left fun v hv => sx_rv_ag hag (cf.2.2.2.1 v (hst v hv))
      cases r with
      | none => exact hm
      | some w => show sx_rv ad' w :: List.map (sx_rv ad') st' = sx_rv ad' w :: List.map (sx_rv ad) st'; rw [hm]
    rw [← hstk]
    exact a1
  · intro w hw
    cases r with
    | none => exact (cf.2.2.2.1 w (hst w hw)).up hmono.1
    | some z =>
      rcases List.mem_cons.mp hw with rfl | hw
      · exact hok _ rfl
      · exact (cf.2.2.2.1 w (hst w hw)).up hmono.1
theorem mn_good (cm : Nat) (h1 : 1 ≤ cm) (h2 : cm < 287) : GoodIn sx_gw (sx_wsm cm) := by
  intro w hw
  rcases List.mem_cons.mp hw with rfl | hw
  · exact ⟨List.mem_filter.mpr ⟨sx_code_ok h1 h2, rfl⟩, good_of_word rfl⟩
  · exact ⟨hw, good_of_word (List.mem_filter.mp hw).2⟩
theorem mn_in {w : Cond} (h : w ∈ lw_tbl) (hg : goodWord w = true) : w ∈ sx_gw ∧ ((w.onTables && w.keeps) = true ∨ ∃ ty, w = .arrayClass ty) := ⟨List.mem_filter.mpr ⟨h, hg⟩, good_of_word hg⟩
theorem mn_blind {ad : Nat → Nat} {vs : List sxV} : FrameBlind (sx_Pc g ad vs T σ) := by
  intro a U f mk h
  obtain ⟨h1, ⟨w1, w2, w3, w4, w5, w6⟩, ws, h3⟩ := h
  refine ⟨h1, ⟨fun b i y h q => va_Nw.same rfl (rfl : U.vm = (U.calling f mk a).vm) (w1 b i y h q), ?_, ?_, ?_, ?_, w6⟩, ws, h3⟩
  · exact va_AO.moved (u := U) (U := U.calling f mk a) (Vm.Alike.refl U.vm) w2
  · exact va_K.moved (u := U) (U := U.calling f mk a) (Vm.Alike.refl U.vm) w3
  · obtain ⟨adV, w4, wz1, wz2⟩ := w4
    exact ⟨adV, vk_S.moved (u := U) (U := U.calling f mk a) (Vm.Alike.refl U.vm) w4, va_Z.moved (u := U) (U := U.calling f mk a) (Vm.Alike.refl U.vm) wz1, va_Zq.moved (u := U) (U := U.calling f mk a) (Vm.Alike.refl U.vm) wz2⟩
  · exact fun j hj => vk_R.same (u := U) (U := U.calling f mk a) rfl (w5 j hj)
theorem mn_call {n : Nat} (ih : sx_Sd l n) {q : Nat × sxL × List sxV} (cx : sx_Cx g ad0 mi p R s m args meth c) (h : sx_exec mi pc L st T σ = some (.inr (.inl q))) (hs : sx_sim n q.1 0 q.2.1 [] T σ = some (r, T', σ')) (hc1 : T'.length ≤ e1 + R.cells) (hc2 : sx_sl T' ≤ e2 + R.slots) (k : sx_Go g ad0 mi p l e R s m args below meth c Q e1 e2 (pc + 3) L (sx_push r q.2.2) T' σ') : sx_Go g ad0 mi p l e R s m args below meth c Q e1 e2 pc L st T σ := by
  obtain ⟨cm, L', st'⟩ := q
  simp only at hs k
  have hmono := mt_sim _ _ _ _ _ _ _ _ _ _ hs
  obtain ⟨idx, np, ps, hcase⟩ := cr_calls h
  simp only at hcase
  intro ad ws H locs ls cells slots cf
  have hR := cf.1
  have hS := cf.2.2.2.2.1
  have e5 := cf.2.2.2.2.2.1
  have e6 := cf.2.2.2.2.2.2.1
  have hts := cx.2.2.2.2.2.2.2.1
  have hfix : CallFix p m c (sx_cod mi) (sx_mx mi) s args sx_gw (sx_ow (sx_oi mi)) := ⟨cx.1, cx.2.1, cx.2.2.1, cx.2.2.2.2.2.2.1, hts⟩
  have hpc : ∀ vs : List sxV, ∀ U : State, U.heap = H → s.WarmedH U.vm → sx_Pc g ad vs T σ (vs.map (sx_rv ad)).toArray U := fun vs U hU hW => ⟨rfl, cx.2.2.2.2.2.2.2.2.1.moved cf.2.2.2.2.2.2.2.1 hS hU hW, ws, by rw [hU]; exact hR⟩
  have hcs : cells + (T'.length - T.length) ≤ R.cells ∧ slots + (sx_sl T' - sx_sl T) ≤ R.slots := ⟨by omega, by omega⟩
  have hroom : ∀ k, sx_fits mi cm k = true → (sx_rm cm (T'.length - T.length) (sx_sl T' - sx_sl T)).frames + 1 ≤ R.frames ∧ 8 + (sx_mx cm + 11) + (sx_rm cm (T'.length - T.length) (sx_sl T' - sx_sl T)).locals ≤ R.locals ∧ k ≤ sx_mx cm := by
    intro k hk
    simp only [sx_fits, Bool.and_eq_true, decide_eq_true_eq] at hk
    have f1 := cx.2.2.2.2.2.2.2.2.2.1
    have f2 := cx.2.2.2.2.2.2.2.2.2.2.1
    exact ⟨by show sx_fr cm + 1 ≤ _; omega, by show 8 + (sx_mx cm + 11) + sx_lo cm ≤ _; omega, hk.2⟩
  have hvs : ∀ k, (∀ v ∈ st.take k, sx_nJ v = true) → ∀ v ∈ (st.take k).reverse, sx_okV T.length v ∧ sx_nJ v = true := fun k hk v hv => ⟨cf.2.2.2.1 v (List.mem_of_mem_take (List.mem_reverse.mp hv)), hk v (List.mem_reverse.mp hv)⟩
  rcases hcase with ⟨hd, hlk, ⟨a, tl, hdrop, hkd⟩, hcc⟩ | ⟨hd, hlk, hcc⟩ | ⟨hd, hlk, ⟨a, tl, hdrop⟩, hcc⟩
  · obtain ⟨hfit, hlen, h4, hj, rfl, rfl⟩ := hcc
    have hw := sx_lk_ok hlk
    obtain ⟨w1, w2, w3, w4, w5, w6, w7⟩ : Cond.methodLink (sx_ow (sx_oi mi)) idx (sx_y cm) ∈ lw_tbl ∧ Cond.instanceMethod (sx_y cm) ∈ lw_tbl ∧ Cond.selects (sx_y cm).cls (sx_y cm) (sx_y cm) ∈ lw_tbl ∧ Cond.initialized (sx_y cm).cls ∈ lw_tbl ∧ (parseMethodDescriptor (sx_y cm).desc).map (fun d => d.parameters.length) = some np ∧ cm < 287 ∧ 1 ≤ cm := by
      unfold sx_lkok at hw
      split at hw <;> rename_i e <;> first | (cases e; done) | skip
      all_goals first | (cases e; simp only [Bool.and_eq_true, sx_np, decide_eq_true_eq] at hw; exact ⟨sx_at_mem hw.1.1.1.1.1.1, sx_at_mem hw.1.1.1.1.1.2, sx_at_mem hw.1.1.1.1.2, sx_at_mem hw.1.1.1.2, hw.1.1.2, hw.1.2, hw.2⟩) | cases hw
    have hmt := sx_mt_ok w7 w6
    obtain ⟨f1, f2, f3⟩ := hroom _ hfit
    have hM := sx_Met ih (g := g) (ad := ad) w7 w6 hs (hvs _ hj) (by rw [List.length_reverse, List.length_take]; omega)
    obtain ⟨q, hq, hqn⟩ : ∃ q, sx_cls[sx_ci cm]? = some q ∧ q.1 = (sx_y cm).cls := by
      rcases hmt.2.2.2.2.2 with z | z
      · obtain ⟨sh, z1, z2⟩ := sx_kd_some hkd (by omega)
        exfalso
        cases a with
        | zero => rw [hR.2.2.2.2.2.2.2.1] at z1; cases z1; simp only at z2; omega
        | succ k0 =>
          obtain ⟨-, -, o, -⟩ := hR.2.2.2.1 k0 sh z1
          rcases o with o | ⟨q, o, -⟩
          · omega
          · have := (sx_cls_ok o).1; omega
      · cases hz : sx_cls[sx_ci cm]? with
        | none => rw [hz] at z; cases z
        | some q => rw [hz] at z; exact ⟨q, rfl, Option.some.inj z⟩
    obtain ⟨k0, sh, rfl, -, -, -, -, -, hws⟩ := hR.obj hkd hq
    have htk : st.take (np + 1) = st.take np ++ [vR (k0 + 1)] := by
      have : st = st.take np ++ (vR (k0 + 1) :: tl) := by rw [← hdrop, List.take_append_drop]
      have hnp : (st.take np).length = np := by rw [List.length_take]; omega
      conv => lhs; rw [this, List.take_append, hnp]
      rw [List.take_of_length_le (by rw [hnp]; omega)]
      congr 1
      rw [show np + 1 - np = 1 by omega]
      rfl
    have hdr : st.drop (np + 1) = tl := by
      have : st.drop (np + 1) = (st.drop np).drop 1 := by rw [List.drop_drop]
      rw [this, hdrop]; rfl
    have hrev : (st.take (np + 1)).reverse = vR (k0 + 1) :: (st.take np).reverse := by rw [htk]; simp
    have hsplit : st = st.take np ++ (vR (k0 + 1) :: tl) := by rw [← hdrop, List.take_append_drop]
    have hnp : (st.take np).length = np := by rw [List.length_take]; omega
    rw [hrev] at hM
    refine mn_run (a := (Value.ref (ad (k0 + 1)) :: (st.take np).reverse.map (sx_rv ad)).toArray) cf (fun v hv => List.mem_of_mem_drop hv) hmono ?_ k
    refine va_runV (As := (st.take np).reverse.map (sx_rv ad)) (b := ad (k0 + 1)) (C := (sx_y cm).cls) (n := np) (bytes := sx_cod cm) (maxL := sx_mx cm) (ret := sx_rt cm) hfix hM (cwV np hts ?_ rfl rfl rfl ⟨rfl, hmt.2.2.2.1, hmt.2.2.2.2.1, w5⟩ ⟨f1, f2⟩) ⟨mn_blind, ?_, fun U hU hW => ?_⟩ rfl (by rw [List.length_map, List.length_reverse]; exact hnp) cf.2.1.2.1 ?_ (lv_room (so_cat8 h4)) hd hcs
    · intro w hw
      unfold wsV at hw
      rcases List.mem_append.mp hw with hw | hw
      · simp only [List.mem_cons, List.not_mem_nil, or_false] at hw
        rcases hw with rfl | rfl | rfl | rfl
        · exact mn_in w1 rfl
        · exact mn_in w2 rfl
        · exact mn_in w3 rfl
        · exact mn_in w4 rfl
      · exact mn_good cm w7 w6 w hw
    · have := va_recv cx.2.2.2.2.2.2.2.2.1.2.2.1 hR.1 hq hws
      rw [hqn] at this
      exact this
    · exact hpc (vR (k0 + 1) :: (st.take np).reverse) U hU hW
    · show List.map (sx_rv ad) st = _
      rw [← List.map_reverse, List.reverse_reverse, hdr]
      conv => lhs; rw [hsplit]
      rw [List.map_append]
      rfl
  · obtain ⟨hfit, hlen, h4, hj, rfl, rfl⟩ := hcc
    obtain ⟨f1, f2, f3⟩ := hroom _ hfit
    have hstk : List.map (sx_rv ad) st = (List.map (sx_rv ad) (st.take np).reverse).reverse ++ List.map (sx_rv ad) (st.drop np) := by
      rw [← List.map_reverse, List.reverse_reverse, ← List.map_append, List.take_append_drop]
    have hnp : (List.map (sx_rv ad) (st.take np).reverse).length = np := by simp; omega
    rcases hlk with hlk | hlk
    · have hw := sx_lk_ok hlk
      obtain ⟨w1, w2, w4, w5, w6, w7⟩ : Cond.methodLink (sx_ow (sx_oi mi)) idx (sx_y cm) ∈ lw_tbl ∧ Cond.static (sx_y cm) ∈ lw_tbl ∧ Cond.initialized (sx_y cm).cls ∈ lw_tbl ∧ (parseMethodDescriptor (sx_y cm).desc).map (fun d => d.parameters.length) = some np ∧ cm < 287 ∧ 1 ≤ cm := by
        unfold sx_lkok at hw
        split at hw <;> rename_i e <;> first | (cases e; done) | skip
        all_goals first | (cases e; simp only [Bool.and_eq_true, sx_np, decide_eq_true_eq] at hw; exact ⟨sx_at_mem hw.1.1.1.1.1, sx_at_mem hw.1.1.1.1.2, sx_at_mem hw.1.1.1.2, hw.1.1.2, hw.1.2, hw.2⟩) | cases hw
      have hmt := sx_mt_ok w7 w6
      have hM := sx_Met ih (g := g) (ad := ad) w7 w6 hs (hvs _ hj) (by rw [List.length_reverse, List.length_take]; omega)
      refine mn_run (a := ((st.take np).reverse.map (sx_rv ad)).toArray) cf (fun v hv => List.mem_of_mem_drop hv) hmono ?_ k
      exact va_runS (As := (st.take np).reverse.map (sx_rv ad)) (n := np) (bytes := sx_cod cm) (maxL := sx_mx cm) (ret := sx_rt cm) hfix hM ⟨callB_of np hts (mn_good cm w7 w6) rfl rfl rfl (sx_tb hts w4 rfl) (sx_tb hts w1 rfl) ⟨hmt.2.2.2.1, hmt.2.2.2.2.1, w5⟩ ⟨f1, f2⟩, sx_tb hts w2 rfl⟩ ⟨mn_blind, fun U hU hW => hpc _ U hU hW⟩ rfl hnp cf.2.1.2.1 hstk (lv_room (so_cat8 h4)) hd hcs
    · have hw := sx_lk_ok hlk
      obtain ⟨w1, w2, w4, w5, w6, w7⟩ : Cond.methodLinkNest (sx_ow (sx_oi mi)) idx (sx_y cm) "ScaleNets" ∈ lw_tbl ∧ Cond.static (sx_y cm) ∈ lw_tbl ∧ Cond.initialized (sx_y cm).cls ∈ lw_tbl ∧ (parseMethodDescriptor (sx_y cm).desc).map (fun d => d.parameters.length) = some np ∧ cm < 287 ∧ 1 ≤ cm := by
        unfold sx_lkok at hw
        split at hw <;> rename_i e <;> first | (cases e; done) | skip
        all_goals first | (cases e; simp only [Bool.and_eq_true, sx_np, decide_eq_true_eq] at hw; exact ⟨sx_at_mem hw.1.1.1.1.1, sx_at_mem hw.1.1.1.1.2, sx_at_mem hw.1.1.1.2, hw.1.1.2, hw.1.2, hw.2⟩) | cases hw
      have hmt := sx_mt_ok w7 w6
      have hM := sx_Met ih (g := g) (ad := ad) w7 w6 hs (hvs _ hj) (by rw [List.length_reverse, List.length_take]; omega)
      refine mn_run (a := ((st.take np).reverse.map (sx_rv ad)).toArray) cf (fun v hv => List.mem_of_mem_drop hv) hmono ?_ k
      exact va_runSN (As := (st.take np).reverse.map (sx_rv ad)) (n := np) (bytes := sx_cod cm) (maxL := sx_mx cm) (ret := sx_rt cm) hfix hM ⟨va_cnB np hts (mn_good cm w7 w6) rfl rfl rfl (cx.2.2.2.2.2.2.2.2.1.1 _ _ _ _ w1) (sx_tb hts w4 rfl) ⟨hmt.2.2.2.1, hmt.2.2.2.2.1, w5⟩ ⟨f1, f2⟩, sx_tb hts w2 rfl, trivial⟩ ⟨mn_blind, fun U hU hW => hpc _ U hU hW⟩ rfl hnp cf.2.1.2.1 hstk (lv_room (so_cat8 h4)) hd hcs
  · obtain ⟨hfit, hlen, h4, hj, rfl, rfl⟩ := hcc
    obtain ⟨f1, f2, f3⟩ := hroom _ hfit
    have hsplit : st = st.take np ++ (vR a :: tl) := by rw [← hdrop, List.take_append_drop]
    have hnp : (st.take np).length = np := by rw [List.length_take]; omega
    have htk : st.take (np + 1) = st.take np ++ [vR a] := by
      conv => lhs; rw [hsplit, List.take_append, hnp]
      rw [List.take_of_length_le (by rw [hnp]; omega)]
      congr 1
      rw [show np + 1 - np = 1 by omega]
      rfl
    have hdr : st.drop (np + 1) = tl := by
      have : st.drop (np + 1) = (st.drop np).drop 1 := by rw [List.drop_drop]
      rw [this, hdrop]; rfl
    have hrev : (st.take (np + 1)).reverse = vR a :: (st.take np).reverse := by rw [htk]; simp
    have hstk : List.map (sx_rv ad) st = (List.map (sx_rv ad) (st.take np).reverse).reverse ++ Value.ref (ad a) :: List.map (sx_rv ad) (st.drop (np + 1)) := by
      rw [← List.map_reverse, List.reverse_reverse, hdr]
      conv => lhs; rw [hsplit]
      rw [List.map_append]
      rfl
    rcases hlk with hlk | hlk
    · have hw := sx_lk_ok hlk
      obtain ⟨w1, w2, w4, w5, w6, w7, w8, w9⟩ : Cond.methodLink (sx_ow (sx_oi mi)) idx (sx_y cm) ∈ lw_tbl ∧ Cond.instanceMethod (sx_y cm) ∈ lw_tbl ∧ Cond.initialized (sx_y cm).cls ∈ lw_tbl ∧ (parseMethodDescriptor (sx_y cm).desc).map (fun d => d.parameters.length) = some np ∧ cm < 287 ∧ 1 ≤ cm ∧ (sx_y cm).name = "<init>" ∧ sx_rt cm = none := by
        unfold sx_lkok at hw
        split at hw <;> rename_i e <;> first | (cases e; done) | skip
        all_goals first | (cases e; simp only [Bool.and_eq_true, sx_np, decide_eq_true_eq] at hw; exact ⟨sx_at_mem hw.1.1.1.1.1.1.1, sx_at_mem hw.1.1.1.1.1.1.2, sx_at_mem hw.1.1.1.1.1.2, hw.1.1.1.1.2, hw.1.1.1.2, hw.1.1.2, hw.1.2, hw.2⟩) | cases hw
      have hmt := sx_mt_ok w7 w6
      have hM := sx_Met ih (g := g) (ad := ad) w7 w6 hs (hvs _ hj) (by rw [List.length_reverse, List.length_take]; omega)
      rw [hrev] at hM
      refine mn_run (a := (Value.ref (ad a) :: (st.take np).reverse.map (sx_rv ad)).toArray) cf (fun v hv => List.mem_of_mem_drop hv) hmono ?_ k
      exact va_runI (As := (st.take np).reverse.map (sx_rv ad)) (b := ad a) (n := np) (bytes := sx_cod cm) (maxL := sx_mx cm) hfix hM ⟨callB_of np hts (mn_good cm w7 w6) (by unfold sx_wsm; rw [w9]) rfl rfl (sx_tb hts w4 rfl) (sx_tb hts w1 rfl) ⟨hmt.2.2.2.1, hmt.2.2.2.2.1, w5⟩ ⟨f1, f2⟩, w8, sx_tb hts w2 rfl⟩ ⟨mn_blind, fun U hU hW => hpc (vR a :: (st.take np).reverse) U hU hW⟩ rfl (by rw [List.length_map, List.length_reverse]; exact hnp) cf.2.1.2.1 hstk (lv_room (so_cat8 h4)) hd hcs
    · have hw := sx_lk_ok hlk
      obtain ⟨w1, w2, w4, w5, w6, w7, w8, w9⟩ : Cond.methodLinkNest (sx_ow (sx_oi mi)) idx (sx_y cm) "ScaleNets" ∈ lw_tbl ∧ Cond.instanceMethod (sx_y cm) ∈ lw_tbl ∧ Cond.initialized (sx_y cm).cls ∈ lw_tbl ∧ (parseMethodDescriptor (sx_y cm).desc).map (fun d => d.parameters.length) = some np ∧ cm < 287 ∧ 1 ≤ cm ∧ (sx_y cm).name = "<init>" ∧ sx_rt cm = none := by
        unfold sx_lkok at hw
        split at hw <;> rename_i e <;> first | (cases e; done) | skip
        all_goals first | (cases e; simp only [Bool.and_eq_true, sx_np, decide_eq_true_eq] at hw; exact ⟨sx_at_mem hw.1.1.1.1.1.1.1, sx_at_mem hw.1.1.1.1.1.1.2, sx_at_mem hw.1.1.1.1.1.2, hw.1.1.1.1.2, hw.1.1.1.2, hw.1.1.2, hw.1.2, hw.2⟩) | cases hw
      have hmt := sx_mt_ok w7 w6
      have hM := sx_Met ih (g := g) (ad := ad) w7 w6 hs (hvs _ hj) (by rw [List.length_reverse, List.length_take]; omega)
      rw [hrev] at hM
      refine mn_run (a := (Value.ref (ad a) :: (st.take np).reverse.map (sx_rv ad)).toArray) cf (fun v hv => List.mem_of_mem_drop hv) hmono ?_ k
      exact va_runIN (As := (st.take np).reverse.map (sx_rv ad)) (b := ad a) (n := np) (bytes := sx_cod cm) (maxL := sx_mx cm) hfix hM ⟨va_cnB np hts (mn_good cm w7 w6) (by unfold sx_wsm; rw [w9]) rfl rfl (cx.2.2.2.2.2.2.2.2.1.1 _ _ _ _ w1) (sx_tb hts w4 rfl) ⟨hmt.2.2.2.1, hmt.2.2.2.2.1, w5⟩ ⟨f1, f2⟩, w8, sx_tb hts w2 rfl⟩ ⟨mn_blind, fun U hU hW => hpc (vR a :: (st.take np).reverse) U hU hW⟩ rfl (by rw [List.length_map, List.length_reverse]; exact hnp) cf.2.1.2.1 hstk (lv_room (so_cat8 h4)) hd hcs
theorem sx_sound (l : Launch) : ∀ n, sx_Sd l n := by
  intro n
  induction n with
  | zero => intro g ad0 mi pc L st T σ r T' σ' h; simp [sx_sim] at h
  | succ n ih =>
    intro g ad0 mi pc L st T σ r T' σ' h hm0 p e R s m args below meth c Q e1 e2 cx hc1 hc2 hfin
    rw [sx_sim] at h
    split at h
    · cases h
    · rename_i q hq
      obtain ⟨pc1, L1, st1, T1, σ1⟩ := q
      have hmono := mt_sim _ _ _ _ _ _ _ _ _ _ h
      exact sx_next cx hm0 hq (Nat.le_trans hmono.1 hc1) (Nat.le_trans hmono.2 hc2) (ih g ad0 mi _ _ _ _ _ r T' σ' h hm0 p e R s m args below meth c Q e1 e2 cx hc1 hc2 hfin)
    · rename_i q hq
      split at h
      · cases h
      · rename_i u hu
        obtain ⟨r1, T1, σ1⟩ := u
        have hmono := mt_sim _ _ _ _ _ _ _ _ _ _ h
        exact mn_call ih cx hq hu (Nat.le_trans hmono.1 hc1) (Nat.le_trans hmono.2 hc2) (ih g ad0 mi _ _ _ _ _ r T' σ' h hm0 p e R s m args below meth c Q e1 e2 cx hc1 hc2 hfin)
    · rename_i r1 hq
      cases h
      exact hfin _ _ _ hq
end MN
