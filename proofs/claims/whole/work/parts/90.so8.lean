/-! a step that stays in its method -/
theorem so_len {i : Instr} {len k : Nat} (h : sx_len i = 0 ∨ len = sx_len i) (e : sx_len i = k) (hk : k ≠ 0) : len = k := by omega
theorem sn_m31F : ∀ k : Fin 32, Int32.ofInt ((k : Nat) : Int) &&& 31 = Int32.ofInt ((k : Nat) : Int) := by decide
theorem sn_m31 {b : Int} (h0 : 0 ≤ b) (h : b ≤ 31) : Int32.ofInt b &&& 31 = Int32.ofInt b := by
  have := sn_m31F ⟨b.toNat, by omega⟩
  rw [show (((⟨b.toNat, by omega⟩ : Fin 32) : Nat) : Int) = b from by show ((b.toNat : Nat) : Int) = b; omega] at this
  exact this
section SO8
variable {g : sxG} {ad0 : Nat → Nat} {mi : Nat} {p : Program} {l : Launch} {e : Env} {R : Room} {s : State} {m : MethodId} {args : Array Value} {below : List Frame} {meth : Method} {c : Code} {Q : State → Prop} {e1 e2 pc : Nat} {L : sxL} {st : List sxV} {T : sxT} {σ : sxS}
variable {pc' : Nat} {L' : sxL} {st' : List sxV} {T' : sxT} {σ' : sxS}
theorem so_const {oi idx a v : Nat} {ps : List Nat} (h : sx_lk oi idx = some (8, a, v, ps)) : Cond.constant (sx_ow oi) idx (Int32.ofNat v) ∈ lw_tbl := by
  have hw := sx_lk_ok h
  unfold sx_lkok at hw
  split at hw <;> rename_i e <;> first | (cases e; done) | skip
  all_goals first | (cases e; exact sx_at_mem hw) | cases hw
theorem so_constJ {oi idx a v : Nat} {ps : List Nat} (h : sx_lk oi idx = some (9, a, v, ps)) : Cond.constantLong (sx_ow oi) idx (Int64.ofNat v) ∈ lw_tbl := by
  have hw := sx_lk_ok h
  unfold sx_lkok at hw
  split at hw <;> rename_i e <;> first | (cases e; done) | skip
  all_goals first | (cases e; exact sx_at_mem hw) | cases hw
theorem so_invN {idx vi : Nat} (cx : sx_Cx g ad0 mi p R s m args meth c) (hd : (vi = 0 ∧ decode (sx_cod mi) pc = .ok (.invokevirtual idx, 3)) ∨ (vi = 1 ∧ decode (sx_cod mi) pc = .ok (.invokestatic idx, 3)) ∨ (vi = 2 ∧ decode (sx_cod mi) pc = .ok (.invokespecial idx, 3))) (h : sx_inv mi pc idx vi L st T σ = some (.inl (pc', L', st', T', σ'))) (hc1 : T'.length ≤ e1 + R.cells) (hc2 : sx_sl T' ≤ e2 + R.slots) (k : sx_Go g ad0 mi p l e R s m args below meth c Q e1 e2 pc' L' st' T' σ') : sx_Go g ad0 mi p l e R s m args below meth c Q e1 e2 pc L st T σ := by
  unfold sx_inv at h
  split at h
  · split at h
    · split at h
      · split at h
        · unfold sx_call at h; split at h <;> cases h
        · cases h
      · cases h
    · cases h
  · split at h
    · unfold sx_call at h; split at h <;> cases h
    · cases h
  · split at h
    · unfold sx_call at h; split at h <;> cases h
    · cases h
  · split at h
    · split at h
      · unfold sx_call at h; split at h <;> cases h
      · cases h
    · cases h
  · split at h
    · split at h
      · unfold sx_call at h; split at h <;> cases h
      · cases h
    · cases h
  · rename_i hlk
    split at h
    · rename_i hv
      have hd : decode (sx_cod mi) pc = .ok (.invokespecial idx, 3) := by rcases hd with ⟨z, -⟩ | ⟨z, -⟩ | ⟨-, z⟩ <;> first | exact z | omega
      split at h
      · split at h
        · rename_i hc
          cases h
          exact so_init cx hd hlk hc.1 hc.2.1 hc.2.2 k
        · cases h
      · cases h
    · cases h
  · rename_i hlk
    split at h
    · rename_i hv
      have hd : decode (sx_cod mi) pc = .ok (.invokestatic idx, 3) := by rcases hd with ⟨z, -⟩ | ⟨-, z⟩ | ⟨z, -⟩ <;> first | exact z | omega
      split at h
      · split at h
        · rename_i hc
          cases h
          obtain ⟨q1, q2, q3, q4, q5, q6, q7, q8, q9, q10⟩ := hc
          exact so_copy cx hd hlk q1 q2 q3 q4 q5 q6 q7 q8 q9 q10 k
        · cases h
      · cases h
    · cases h
  · rename_i hlk
    split at h
    · rename_i hv
      have hd : decode (sx_cod mi) pc = .ok (.invokestatic idx, 3) := by rcases hd with ⟨z, -⟩ | ⟨-, z⟩ | ⟨z, -⟩ <;> first | exact z | omega
      split at h
      · split at h
        · rename_i hc
          cases h
          exact so_max cx hd hlk hc.1 hc.2.1 hc.2.2 hc1 hc2 k
        · cases h
      · cases h
    · cases h
  · rename_i hlk
    split at h
    · rename_i hv
      have hd : decode (sx_cod mi) pc = .ok (.invokestatic idx, 3) := by rcases hd with ⟨z, -⟩ | ⟨-, z⟩ | ⟨z, -⟩ <;> first | exact z | omega
      split at h
      · split at h
        · rename_i hc
          cases h
          exact so_min cx hd hlk hc.1 hc.2.1 hc.2.2 hc1 hc2 k
        · cases h
      · cases h
    · cases h
  · rename_i hlk
    split at h
    · rename_i hv
      have hd : decode (sx_cod mi) pc = .ok (.invokestatic idx, 3) := by rcases hd with ⟨z, -⟩ | ⟨-, z⟩ | ⟨z, -⟩ <;> first | exact z | omega
      split at h
      · split at h
        · rename_i hc
          cases h
          exact so_abs cx hd hlk hc.1 hc.2.1 hc.2.2.1 hc.2.2.2 hc1 hc2 k
        · cases h
      · cases h
    · cases h
  · rename_i hlk
    split at h
    · rename_i hv
      have hd : decode (sx_cod mi) pc = .ok (.invokevirtual idx, 3) := by rcases hd with ⟨-, z⟩ | ⟨z, -⟩ | ⟨z, -⟩ <;> first | exact z | omega
      split at h
      · split at h
        · rename_i hc
          cases h
          obtain ⟨q1, q2, q3, q4, q5⟩ := hc
          exact so_strlen cx hd hlk q1 q2 q3 q4 q5 hc1 hc2 k
        · cases h
      · cases h
    · cases h
  · rename_i hlk
    split at h
    · rename_i hv
      have hd : decode (sx_cod mi) pc = .ok (.invokevirtual idx, 3) := by rcases hd with ⟨-, z⟩ | ⟨z, -⟩ | ⟨z, -⟩ <;> first | exact z | omega
      split at h
      · split at h
        · rename_i hc
          cases h
          obtain ⟨q1, q2, q3, q4, q5, q6, q7⟩ := hc
          exact so_strchr cx hd hlk q1 q2 q3 q4 q5 q6 q7 hc1 hc2 k
        · cases h
      · cases h
    · cases h
  · cases h
set_option maxHeartbeats 1000000 in
theorem sx_next (cx : sx_Cx g ad0 mi p R s m args meth c) (hm0 : mi = 0 ∨ (1 ≤ mi ∧ mi < 287)) (h : sx_exec mi pc L st T σ = some (.inl (pc', L', st', T', σ'))) (hc1 : T'.length ≤ e1 + R.cells) (hc2 : sx_sl T' ≤ e2 + R.slots) (k : sx_Go g ad0 mi p l e R s m args below meth c Q e1 e2 pc' L' st' T' σ') : sx_Go g ad0 mi p l e R s m args below meth c Q e1 e2 pc L st T σ := by
  unfold sx_exec at h
  split at h
  · cases h
  rename_i i len hd
  split at h
  case isFalse => cases h
  rename_i hlen
  have hx := cx.1
  have hb := cx.2.1
  cases i
  case iconst n =>
    cases so_len (k := 1) hlen rfl (by decide)
    simp only [sx_do] at h
    split at h
    · rename_i hn
      cases h
      exact so_push (v := vI n) cx (fun _ => hn) (fun ad H locs ls cells slots rest kk => lv_iconst hx hb hd rfl kk) k
    · cases h
  case bipush n =>
    cases so_len (k := 2) hlen rfl (by decide)
    simp only [sx_do] at h
    cases h
    exact so_push (v := vI (Int8.ofInt n).toInt) cx (fun _ => sn_bin) (fun ad H locs ls cells slots rest kk => lv_bipush hx hb hd sn_b kk) k
  case sipush n =>
    cases so_len (k := 3) hlen rfl (by decide)
    simp only [sx_do] at h
    cases h
    exact so_push (v := vI (Int16.ofInt n).toInt) cx (fun _ => sn_hin) (fun ad H locs ls cells slots rest kk => lv_sipush hx hb hd sn_h kk) k
  case lconst n =>
    cases so_len (k := 1) hlen rfl (by decide)
    simp only [sx_do] at h
    cases h
    exact so_push (v := vJ ((n : Nat) : Int)) cx (fun _ => by show inJ _; have := n.isLt; omega) (fun ad H locs ls cells slots rest kk => lv_lconst hx hb hd rfl kk) k
  case ldc n =>
    cases so_len (k := 2) hlen rfl (by decide)
    simp only [sx_do] at h
    split at h
    · rename_i v ps hlk
      split at h
      · rename_i hv
        cases h
        exact so_push (v := vI v) cx (fun _ => hv) (fun ad H locs ls cells slots rest kk => lv_ldc hx hb cx.2.2.2.2.2.2.1 (sx_tb cx.2.2.2.2.2.2.2.1 (so_const hlk) rfl) hd kk) k
      · cases h
    · rename_i j b ps hlk
      split at h
      · rename_i hj
        cases h
        exact so_ldcs cx hd hlk hj k
      · cases h
    · cases h
  case ldc_w n =>
    cases so_len (k := 3) hlen rfl (by decide)
    simp only [sx_do] at h
    split at h
    · rename_i v ps hlk
      split at h
      · rename_i hv
        cases h
        exact so_push (v := vI v) cx (fun _ => hv) (fun ad H locs ls cells slots rest kk => lv_ldcw hx hb cx.2.2.2.2.2.2.1 (sx_tb cx.2.2.2.2.2.2.2.1 (so_const hlk) rfl) hd kk) k
      · cases h
    · cases h
  case ldc2_w n =>
    cases so_len (k := 3) hlen rfl (by decide)
    simp only [sx_do] at h
    split at h
    · rename_i v ps hlk
      split at h
      · rename_i hv
        cases h
        exact so_push (v := vJ v) cx (fun _ => hv) (fun ad H locs ls cells slots rest kk => lv_ldc2 hx hb cx.2.2.2.2.2.2.1 (sx_tb cx.2.2.2.2.2.2.2.1 (so_constJ hlk) rfl) hd kk) k
      · cases h
    · cases h
  case iload_n n =>
    cases so_len (k := 1) hlen rfl (by decide)
    exact so_ldI (i := n) cx (fun x H locs ls cells slots rest hl kk => lv_iload_n hx hb hd rfl hl kk) h k
  case iload n =>
    cases so_len (k := 2) hlen rfl (by decide)
    exact so_ldI (i := n) cx (fun x H locs ls cells slots rest hl kk => lv_iload hx hb hd hl kk) h k
  case aload_n n =>
    cases so_len (k := 1) hlen rfl (by decide)
    exact so_ldA (i := n) cx (fun x H locs ls cells slots rest hl kk => lv_aload_n hx hb hd rfl hl kk) h k
  case aload n =>
    cases so_len (k := 2) hlen rfl (by decide)
    exact so_ldA (i := n) cx (fun x H locs ls cells slots rest hl kk => lv_aload hx hb hd hl kk) h k
  case istore_n n =>
    cases so_len (k := 1) hlen rfl (by decide)
    exact so_stI (i := n) cx (fun x lv nL H locs ls cells slots rest hl hn kk => lv_istore_n hx hb hd rfl hl hn rfl kk) h k
  case istore n =>
    cases so_len (k := 2) hlen rfl (by decide)
    exact so_stI (i := n) cx (fun x lv nL H locs ls cells slots rest hl hn kk => lv_istore hx hb hd hl hn rfl kk) h k
  case astore_n n =>
    cases so_len (k := 1) hlen rfl (by decide)
    exact so_stA (i := n) cx (fun x lv nL H locs ls cells slots rest hl hn kk => lv_astore_n hx hb hd rfl hl hn rfl kk) h k
  case astore n =>
    cases so_len (k := 2) hlen rfl (by decide)
    exact so_stA (i := n) cx (fun x lv nL H locs ls cells slots rest hl hn kk => lv_astore hx hb hd hl hn rfl kk) h k
  case iinc n d =>
    cases so_len (k := 3) hlen rfl (by decide)
    exact so_iinc cx hd h k
  case iadd =>
    cases so_len (k := 1) hlen rfl (by decide)
    simp only [sx_do] at h
    exact so_bin cx (fun a b v ha hb' hf hv H locs ls cells slots rest kk => by cases hf; rw [← sn_add] at kk; exact lv_iadd hx hb hd kk) h k
  case isub =>
    cases so_len (k := 1) hlen rfl (by decide)
    simp only [sx_do] at h
    exact so_bin cx (fun a b v ha hb' hf hv H locs ls cells slots rest kk => by cases hf; rw [← sn_sub] at kk; exact lv_isub hx hb hd kk) h k
  case imul =>
    cases so_len (k := 1) hlen rfl (by decide)
    simp only [sx_do] at h
    exact so_bin cx (fun a b v ha hb' hf hv H locs ls cells slots rest kk => by cases hf; rw [← sn_mul] at kk; exact lv_imul hx hb hd kk) h k
  case iand =>
    cases so_len (k := 1) hlen rfl (by decide)
    simp only [sx_do] at h
    exact so_bin cx (fun a b v ha hb' hf hv H locs ls cells slots rest kk => by cases hf; rw [← sn_and] at kk; exact lv_iand hx hb hd kk) h k
  case ior =>
    cases so_len (k := 1) hlen rfl (by decide)
    simp only [sx_do] at h
    exact so_bin cx (fun a b v ha hb' hf hv H locs ls cells slots rest kk => by cases hf; rw [← sn_or] at kk; exact lv_ior hx hb hd kk) h k
  case ixor =>
    cases so_len (k := 1) hlen rfl (by decide)
    simp only [sx_do] at h
    exact so_bin cx (fun a b v ha hb' hf hv H locs ls cells slots rest kk => by cases hf; rw [← sn_xor] at kk; exact lv_ixor hx hb hd kk) h k
  case idiv =>
    cases so_len (k := 1) hlen rfl (by decide)
    simp only [sx_do] at h
    refine so_bin cx (fun a b v ha hb' hf hv H locs ls cells slots rest kk => ?_) h k
    split at hf
    · rename_i hp
      cases hf
      rw [← sn_div ha hb' hv] at kk
      exact lv_idiv hx hb hd (sn_zeq (a := 0) hb' (by omega)) kk
    · cases hf
  case irem =>
    cases so_len (k := 1) hlen rfl (by decide)
    simp only [sx_do] at h
    refine so_bin cx (fun a b v ha hb' hf hv H locs ls cells slots rest kk => ?_) h k
    split at hf
    · rename_i hp
      cases hf
      rw [← sn_rem ha hb' (sn_tdiv_min ha hp)] at kk
      exact lv_irem hx hb hd (sn_zeq (a := 0) hb' (by omega)) kk
    · cases hf
  case ishl =>
    cases so_len (k := 1) hlen rfl (by decide)
    simp only [sx_do] at h
    refine so_bin cx (fun a b v ha hb' hf hv H locs ls cells slots rest kk => ?_) h k
    split at hf
    · rename_i hp
      cases hf
      rw [← sn_shl hp.1 hp.2, ← sn_m31 hp.1 hp.2] at kk
      exact lv_ishl hx hb hd kk
    · cases hf
  case ishr =>
    cases so_len (k := 1) hlen rfl (by decide)
    simp only [sx_do] at h
    refine so_bin cx (fun a b v ha hb' hf hv H locs ls cells slots rest kk => ?_) h k
    split at hf
    · rename_i hp
      cases hf
      rw [← sn_shr ha hp.1 hp.2, ← sn_m31 hp.1 hp.2] at kk
      exact lv_ishr hx hb hd kk
    · cases hf
  case iushr =>
    cases so_len (k := 1) hlen rfl (by decide)
    simp only [sx_do] at h
    refine so_bin cx (fun a b v ha hb' hf hv H locs ls cells slots rest kk => ?_) h k
    split at hf
    · rename_i hp
      cases hf
      exact lv_iushr hx hb hd (sn_ushr ha hp.2.2 hp.1 hp.2.1) kk
    · cases hf
  case ineg =>
    cases so_len (k := 1) hlen rfl (by decide)
    simp only [sx_do] at h
    split at h
    · rename_i a st1
      split at h
      · rename_i hi
        cases h
        intro ad ws H locs ls cells slots cf
        refine lv_ineg hx hb hd ?_
        have kk := k ad ws H locs ls cells slots (cf.st (by
          intro w hw
          rcases List.mem_cons.mp hw with rfl | hw
          · exact hi
          · exact cf.2.2.2.1 w (by simp [hw])))
        have hneg : ∀ z : Int32, z = Int32.ofInt (-a) → W p l e R s m args below meth c H locs cells slots Q (F0 m (pc + 1) ls (.int z :: List.map (sx_rv ad) st1)) := fun z hz => by rw [hz]; exact kk
        apply hneg
        first | (rw [sn_0, sn_sub]; congr 1; omega) | (rw [Int32.ofInt_neg])
      · cases h
    · cases h
  case i2l =>
    cases so_len (k := 1) hlen rfl (by decide)
    simp only [sx_do] at h
    split at h
    · rename_i a st1
      cases h
      intro ad ws H locs ls cells slots cf
      have ha : inI a := cf.2.2.2.1 (vI a) (by simp)
      exact lv_i2l hx hb hd (sn_i2l ha) (k ad ws H locs ls cells slots (cf.st (by
          intro w hw
          rcases List.mem_cons.mp hw with rfl | hw
          · show inJ a; omega
          · exact cf.2.2.2.1 w (by simp [hw]))))
    · cases h
  case l2i =>
    cases so_len (k := 1) hlen rfl (by decide)
    simp only [sx_do] at h
    split at h
    · rename_i a st1
      split at h
      · rename_i ha
        cases h
        intro ad ws H locs ls cells slots cf
        exact lv_l2i hx hb hd (sn_l2i a) (k ad ws H locs ls cells slots (cf.st (by
          intro w hw
          rcases List.mem_cons.mp hw with rfl | hw
          · exact ha
          · exact cf.2.2.2.1 w (by simp [hw]))))
      · cases h
    · cases h
  case ladd =>
    cases so_len (k := 1) hlen rfl (by decide)
    simp only [sx_do] at h
    exact so_binJ cx (fun a b v ha hb' hf hv H locs ls cells slots rest kk => by cases hf; rw [← sn_addj] at kk; exact lv_ladd hx hb hd kk) h k
  case lmul =>
    cases so_len (k := 1) hlen rfl (by decide)
    simp only [sx_do] at h
    exact so_binJ cx (fun a b v ha hb' hf hv H locs ls cells slots rest kk => by cases hf; rw [← sn_mulj] at kk; exact lv_lmul hx hb hd kk) h k
  case land =>
    cases so_len (k := 1) hlen rfl (by decide)
    simp only [sx_do] at h
    exact so_binJ cx (fun a b v ha hb' hf hv H locs ls cells slots rest kk => by cases hf; rw [← sn_land] at kk; exact lv_land hx hb hd kk) h k
  case lrem =>
    cases so_len (k := 1) hlen rfl (by decide)
    simp only [sx_do] at h
    refine so_binJ cx (fun a b v ha hb' hf hv H locs ls cells slots rest kk => ?_) h k
    split at hf
    · rename_i hp
      cases hf
      rw [← sn_remj ha hb' (sn_tdivj_min ha hp)] at kk
      exact lv_lrem hx hb hd (sn_zeqj hb' (by omega)) kk
    · cases hf
  case lshr =>
    cases so_len (k := 1) hlen rfl (by decide)
    simp only [sx_do] at h
    split at h
    · rename_i b a st1
      split at h
      · rename_i hp
        cases h
        intro ad ws H locs ls cells slots cf
        have ha : inJ a := cf.2.2.2.1 (vJ a) (by simp)
        exact lv_lshr hx hb hd (sn_lshr ha hp.1 hp.2) (k ad ws H locs ls cells slots (cf.st (by
          intro w hw
          rcases List.mem_cons.mp hw with rfl | hw
          · have := sn_inJ (Int64.ofInt a >>> ((Int32.ofInt b).toInt64 &&& 63))
            show inJ _
            have z := sn_divj_in (k := b.toNat) ha
            exact z
          · exact cf.2.2.2.1 w (by simp [hw]))))
      · cases h
    · cases h
  case dup =>
    cases so_len (k := 1) hlen rfl (by decide)
    simp only [sx_do] at h
    split at h
    · rename_i v st1
      split at h
      · rename_i hv
        cases h
        intro ad ws H locs ls cells slots cf
        exact lv_dup hx hb hd (sx_rv_cat hv) (k ad ws H locs ls cells slots (cf.st (fun w hw => cf.2.2.2.1 w (by simp only [List.mem_cons] at hw ⊢; rcases hw with z | z | z; exact Or.inl z; exact Or.inl z; exact Or.inr z))))
      · cases h
    · cases h
  case dup2 =>
    cases so_len (k := 1) hlen rfl (by decide)
    simp only [sx_do] at h
    split at h
    · rename_i v w st1
      split at h
      · rename_i hv
        cases h
        intro ad ws H locs ls cells slots cf
        exact lv_dup2_11 hx hb hd (sx_rv_cat hv.1) (sx_rv_cat hv.2) (k ad ws H locs ls cells slots (cf.st (fun w hw => cf.2.2.2.1 w (by simp only [List.mem_cons] at hw ⊢; rcases hw with z | z | z | z | z; exact Or.inl z; exact Or.inr (Or.inl z); exact Or.inl z; exact Or.inr (Or.inl z); exact Or.inr (Or.inr z)))))
      · cases h
    · cases h
  case pop =>
    cases so_len (k := 1) hlen rfl (by decide)
    simp only [sx_do] at h
    split at h
    · rename_i v st1
      split at h
      · rename_i hv
        cases h
        intro ad ws H locs ls cells slots cf
        exact lv_pop hx hb hd (sx_rv_cat hv) (k ad ws H locs ls cells slots (cf.st (fun w hw => cf.2.2.2.1 w (by simp [hw]))))
      · cases h
    · cases h
  case goto off =>
    cases so_len (k := 3) hlen rfl (by decide)
    simp only [sx_do] at h
    obtain ⟨ht, rfl, rfl, rfl, rfl⟩ := so_jmp h
    intro ad ws H locs ls cells slots cf
    exact lv_goto hx hb hd ht (k ad ws H locs ls cells slots cf)
  case if_icmp cd off =>
    cases so_len (k := 3) hlen rfl (by decide)
    exact so_icmp cx hd h k
  case ifCond cd off =>
    cases so_len (k := 3) hlen rfl (by decide)
    exact so_if cx hd h k
  case tableswitch d lo hi offs => exact so_table cx hd h k
  case lookupswitch d ps => exact so_lookup cx hd h k
  case getfield n =>
    cases so_len (k := 3) hlen rfl (by decide)
    exact so_getf cx hd h k
  case putfield n =>
    cases so_len (k := 3) hlen rfl (by decide)
    exact so_putf cx hd hm0 h k
  case new n =>
    cases so_len (k := 3) hlen rfl (by decide)
    exact so_new cx hd h hc1 hc2 k
  case newarray t =>
    cases so_len (k := 2) hlen rfl (by decide)
    cases t
    case int => exact so_newaI cx (Or.inl ⟨rfl, rfl⟩) hd h hc1 hc2 k
    case boolean => exact so_newaI cx (Or.inr ⟨rfl, rfl⟩) hd h hc1 hc2 k
    all_goals (simp only [sx_do] at h; cases h)
  case anewarray n =>
    cases so_len (k := 3) hlen rfl (by decide)
    exact so_newaP cx hd h hc1 hc2 k
  case iaload =>
    cases so_len (k := 1) hlen rfl (by decide)
    exact so_aloadI cx (Or.inl ⟨rfl, hd⟩) h k
  case baload =>
    cases so_len (k := 1) hlen rfl (by decide)
    exact so_aloadI cx (Or.inr ⟨rfl, hd⟩) h k
  case iastore =>
    cases so_len (k := 1) hlen rfl (by decide)
    exact so_astoreI cx (Or.inl ⟨rfl, hd⟩) h k
  case bastore =>
    cases so_len (k := 1) hlen rfl (by decide)
    exact so_astoreI cx (Or.inr ⟨rfl, hd⟩) h k
  case aaload =>
    cases so_len (k := 1) hlen rfl (by decide)
    exact so_aaload cx hd h k
  case aastore =>
    cases so_len (k := 1) hlen rfl (by decide)
    exact so_aastore cx hd h k
  case arraylength =>
    cases so_len (k := 1) hlen rfl (by decide)
    exact so_alen cx hd h k
  case invokevirtual n =>
    cases so_len (k := 3) hlen rfl (by decide)
    exact so_invN cx (Or.inl ⟨rfl, hd⟩) h hc1 hc2 k
  case invokestatic n =>
    cases so_len (k := 3) hlen rfl (by decide)
    exact so_invN cx (Or.inr (Or.inl ⟨rfl, hd⟩)) h hc1 hc2 k
  case invokespecial n =>
    cases so_len (k := 3) hlen rfl (by decide)
    exact so_invN cx (Or.inr (Or.inr ⟨rfl, hd⟩)) h hc1 hc2 k
  all_goals (simp only [sx_do] at h)
  all_goals (repeat' split at h)
  all_goals cases h
end SO8
