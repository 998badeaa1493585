/-! one step of the plain machine is one of the machine: numbers, locals, stack, jumps -/
section SO1
variable {g : sxG} {ad0 : Nat → Nat} {mi : Nat} {p : Program} {l : Launch} {e : Env} {R : Room} {s : State} {m : MethodId} {args : Array Value} {below : List Frame} {meth : Method} {c : Code} {Q : State → Prop} {e1 e2 pc : Nat} {L : sxL} {st : List sxV} {T : sxT} {σ : sxS}
variable {pc' : Nat} {L' : sxL} {st' : List sxV} {T' : sxT} {σ' : sxS}
theorem so_push {v : sxV} (cx : sx_Cx g ad0 mi p R s m args meth c) (hv : ∀ n, sx_okV n v) (row : ∀ (ad : Nat → Nat) (H : Heap) (locs : List Loc) (ls : Array Slot) (cells slots : Nat) (rest : List Value), W p l e R s m args below meth c H locs cells slots Q (F0 m pc' ls (sx_rv ad v :: rest)) → W p l e R s m args below meth c H locs cells slots Q (F0 m pc ls rest)) (k : sx_Go g ad0 mi p l e R s m args below meth c Q e1 e2 pc' L (v :: st) T σ) : sx_Go g ad0 mi p l e R s m args below meth c Q e1 e2 pc L st T σ := by
  intro ad ws H locs ls cells slots cf
  exact row ad H locs ls cells slots _ (k ad ws H locs ls cells slots (cf.st (by
    intro w hw
    rcases List.mem_cons.mp hw with rfl | hw
    · exact hv _
    · exact cf.2.2.2.1 w hw)))
theorem so_bin {f : Int → Int → Option Int} (cx : sx_Cx g ad0 mi p R s m args meth c) (row : ∀ (a b v : Int), inI a → inI b → f a b = some v → inI v → ∀ (H : Heap) (locs : List Loc) (ls : Array Slot) (cells slots : Nat) (rest : List Value), W p l e R s m args below meth c H locs cells slots Q (F0 m (pc + 1) ls (.int (Int32.ofInt v) :: rest)) → W p l e R s m args below meth c H locs cells slots Q (F0 m pc ls (.int (Int32.ofInt b) :: .int (Int32.ofInt a) :: rest))) (h : sx_bin pc f L st T σ = some (.inl (pc', L', st', T', σ'))) (k : sx_Go g ad0 mi p l e R s m args below meth c Q e1 e2 pc' L' st' T' σ') : sx_Go g ad0 mi p l e R s m args below meth c Q e1 e2 pc L st T σ := by
  unfold sx_bin at h
  split at h
  · rename_i b a st1
    split at h
    · rename_i v hv
      split at h
      · rename_i hi
        cases h
        intro ad ws H locs ls cells slots cf
        have hs := cf.2.2.2.1
        exact row a b v (hs (vI a) (by simp)) (hs (vI b) (by simp)) hv hi H locs ls cells slots _ (k ad ws H locs ls cells slots (cf.st (by
          intro w hw
          rcases List.mem_cons.mp hw with rfl | hw
          · exact hi
          · exact hs w (by simp [hw]))))
      · cases h
    · cases h
  · cases h
theorem so_binJ {f : Int → Int → Option Int} (cx : sx_Cx g ad0 mi p R s m args meth c) (row : ∀ (a b v : Int), inJ a → inJ b → f a b = some v → inJ v → ∀ (H : Heap) (locs : List Loc) (ls : Array Slot) (cells slots : Nat) (rest : List Value), W p l e R s m args below meth c H locs cells slots Q (F0 m (pc + 1) ls (.long (Int64.ofInt v) :: rest)) → W p l e R s m args below meth c H locs cells slots Q (F0 m pc ls (.long (Int64.ofInt b) :: .long (Int64.ofInt a) :: rest))) (h : sx_binJ pc f L st T σ = some (.inl (pc', L', st', T', σ'))) (k : sx_Go g ad0 mi p l e R s m args below meth c Q e1 e2 pc' L' st' T' σ') : sx_Go g ad0 mi p l e R s m args below meth c Q e1 e2 pc L st T σ := by
  unfold sx_binJ at h
  split at h
  · rename_i b a st1
    split at h
    · rename_i v hv
      split at h
      · rename_i hi
        cases h
        intro ad ws H locs ls cells slots cf
        have hs := cf.2.2.2.1
        exact row a b v (hs (vJ a) (by simp)) (hs (vJ b) (by simp)) hv hi H locs ls cells slots _ (k ad ws H locs ls cells slots (cf.st (by
          intro w hw
          rcases List.mem_cons.mp hw with rfl | hw
          · exact hi
          · exact hs w (by simp [hw]))))
      · cases h
    · cases h
  · cases h
theorem so_ldI {i n : Nat} (cx : sx_Cx g ad0 mi p R s m args meth c) (row : ∀ (x : Int) (H : Heap) (locs : List Loc) (ls : Array Slot) (cells slots : Nat) (rest : List Value), ls[i]? = some (.val (.int (Int32.ofInt x))) → W p l e R s m args below meth c H locs cells slots Q (F0 m n ls (.int (Int32.ofInt x) :: rest)) → W p l e R s m args below meth c H locs cells slots Q (F0 m pc ls rest)) (h : sx_ldI n i L st T σ = some (.inl (pc', L', st', T', σ'))) (k : sx_Go g ad0 mi p l e R s m args below meth c Q e1 e2 pc' L' st' T' σ') : sx_Go g ad0 mi p l e R s m args below meth c Q e1 e2 pc L st T σ := by
  unfold sx_ldI at h
  split at h
  · rename_i x hx
    cases h
    intro ad ws H locs ls cells slots cf
    exact row x H locs ls cells slots _ (cf.2.1.2.2.2 _ _ hx) (k ad ws H locs ls cells slots (cf.st (by
      intro w hw
      rcases List.mem_cons.mp hw with rfl | hw
      · exact (cf.2.2.1 _ _ hx).1
      · exact cf.2.2.2.1 w hw)))
  · cases h
theorem so_ldA {i n : Nat} (cx : sx_Cx g ad0 mi p R s m args meth c) (row : ∀ (x : Nat) (H : Heap) (locs : List Loc) (ls : Array Slot) (cells slots : Nat) (rest : List Value), ls[i]? = some (.val (.ref x)) → W p l e R s m args below meth c H locs cells slots Q (F0 m n ls (.ref x :: rest)) → W p l e R s m args below meth c H locs cells slots Q (F0 m pc ls rest)) (h : sx_ldA n i L st T σ = some (.inl (pc', L', st', T', σ'))) (k : sx_Go g ad0 mi p l e R s m args below meth c Q e1 e2 pc' L' st' T' σ') : sx_Go g ad0 mi p l e R s m args below meth c Q e1 e2 pc L st T σ := by
  unfold sx_ldA at h
  split at h
  · rename_i x hx
    cases h
    intro ad ws H locs ls cells slots cf
    exact row (ad x) H locs ls cells slots _ (cf.2.1.2.2.2 _ _ hx) (k ad ws H locs ls cells slots (cf.st (by
      intro w hw
      rcases List.mem_cons.mp hw with rfl | hw
      · exact (cf.2.2.1 _ _ hx).1
      · exact cf.2.2.2.1 w hw)))
  · cases h
theorem so_stI {i n : Nat} (cx : sx_Cx g ad0 mi p R s m args meth c) (row : ∀ (x : Int32) (lv : List (Nat × Value)) (nL : Nat) (H : Heap) (locs : List Loc) (ls : Array Slot) (cells slots : Nat) (rest : List Value), lv_has ls nL lv → i < nL → (∀ ls' : Array Slot, lv_has ls' nL ((i, Value.int x) :: lv.filter (fun q => !(q.1 == i) && !(q.1 + 1 == i && q.2.category == 2))) → W p l e R s m args below meth c H locs cells slots Q (F0 m n ls' rest)) → W p l e R s m args below meth c H locs cells slots Q (F0 m pc ls (.int x :: rest))) (h : sx_stI n i L st T σ = some (.inl (pc', L', st', T', σ'))) (k : sx_Go g ad0 mi p l e R s m args below meth c Q e1 e2 pc' L' st' T' σ') : sx_Go g ad0 mi p l e R s m args below meth c Q e1 e2 pc L st T σ := by
  unfold sx_stI at h
  split at h
  · rename_i x st1
    split at h
    · rename_i hi
      cases h
      intro ad ws H locs ls cells slots cf
      have hx : sx_okV T.length (vI x) := cf.2.2.2.1 _ (by simp)
      refine row (Int32.ofInt x) _ (sx_mx mi) H locs ls cells slots _ cf.2.1.has (by rw [← cf.2.1.1]; exact hi) (fun ls' hl => ?_)
      exact k ad ws H locs ls' cells slots ⟨cf.1, cf.2.1.set (v := vI x) cf.2.2.1 hl, cf.2.2.1.set hx rfl, fun w hw => cf.2.2.2.1 w (by simp [hw]), cf.2.2.2.2⟩
    · cases h
  · cases h
theorem so_stA {i n : Nat} (cx : sx_Cx g ad0 mi p R s m args meth c) (row : ∀ (x : Nat) (lv : List (Nat × Value)) (nL : Nat) (H : Heap) (locs : List Loc) (ls : Array Slot) (cells slots : Nat) (rest : List Value), lv_has ls nL lv → i < nL → (∀ ls' : Array Slot, lv_has ls' nL ((i, Value.ref x) :: lv.filter (fun q => !(q.1 == i) && !(q.1 + 1 == i && q.2.category == 2))) → W p l e R s m args below meth c H locs cells slots Q (F0 m n ls' rest)) → W p l e R s m args below meth c H locs cells slots Q (F0 m pc ls (.ref x :: rest))) (h : sx_stA n i L st T σ = some (.inl (pc', L', st', T', σ'))) (k : sx_Go g ad0 mi p l e R s m args below meth c Q e1 e2 pc' L' st' T' σ') : sx_Go g ad0 mi p l e R s m args below meth c Q e1 e2 pc L st T σ := by
  unfold sx_stA at h
  split at h
  · rename_i x st1
    split at h
    · rename_i hi
      cases h
      intro ad ws H locs ls cells slots cf
      have hx : sx_okV T.length (vR x) := cf.2.2.2.1 _ (by simp)
      refine row (ad x) _ (sx_mx mi) H locs ls cells slots _ cf.2.1.has (by rw [← cf.2.1.1]; exact hi) (fun ls' hl => ?_)
      exact k ad ws H locs ls' cells slots ⟨cf.1, cf.2.1.set (v := vR x) cf.2.2.1 hl, cf.2.2.1.set hx rfl, fun w hw => cf.2.2.2.1 w (by simp [hw]), cf.2.2.2.2⟩
    · cases h
  · cases h
theorem so_iinc {i : Nat} {d : Int} (cx : sx_Cx g ad0 mi p R s m args meth c) (hd : decode (sx_cod mi) pc = .ok (.iinc i d, 3)) (h : sx_do mi pc L T σ (.iinc i d) st = some (.inl (pc', L', st', T', σ'))) (k : sx_Go g ad0 mi p l e R s m args below meth c Q e1 e2 pc' L' st' T' σ') : sx_Go g ad0 mi p l e R s m args below meth c Q e1 e2 pc L st T σ := by
  simp only [sx_do] at h
  split at h
  · rename_i x hx
    split at h
    · rename_i hi
      cases h
      intro ad ws H locs ls cells slots cf
      have hlen : i < L.length := by
        rcases Nat.lt_or_ge i L.length with q | q
        · exact q
        · rw [List.getElem?_eq_none q] at hx; cases hx
      obtain ⟨j, hj⟩ := List.getElem?_of_mem (sx_lv_mem.mpr ⟨_, hx, rfl⟩ : (i, sx_rv ad (vI x)) ∈ sx_lv ad L)
      refine lv_iinc (lv := sx_lv ad L) (k := j) (x := Int32.ofInt x) (v := Int32.ofInt (x + d)) cx.1 cx.2.1 hd cf.2.1.has hj (sn_add x d) (by rw [← cf.2.1.1]; exact hlen) rfl (fun ls' hl => ?_)
      exact k ad ws H locs ls' cells slots ⟨cf.1, cf.2.1.set (v := vI (x + d)) cf.2.2.1 hl, cf.2.2.1.set (show inI (x + d) from hi) rfl, cf.2.2.2.1, cf.2.2.2.2⟩
    · cases h
  · cases h
theorem so_jmp {off : Int} (h : sx_jmp pc off L st T σ = some (.inl (pc', L', st', T', σ'))) : (pc : Int) + off = (pc' : Int) ∧ L' = L ∧ st' = st ∧ T' = T ∧ σ' = σ := by
  unfold sx_jmp at h
  split at h
  · rename_i h0
    cases h
    exact ⟨by omega, rfl, rfl, rfl, rfl⟩
  · cases h
theorem so_icmp {cd : ClassFile.Cond} {off : Int} (cx : sx_Cx g ad0 mi p R s m args meth c) (hd : decode (sx_cod mi) pc = .ok (.if_icmp cd off, 3)) (h : sx_do mi pc L T σ (.if_icmp cd off) st = some (.inl (pc', L', st', T', σ'))) (k : sx_Go g ad0 mi p l e R s m args below meth c Q e1 e2 pc' L' st' T' σ') : sx_Go g ad0 mi p l e R s m args below meth c Q e1 e2 pc L st T σ := by
  simp only [sx_do] at h
  split at h
  · rename_i b a st1
    split at h
    · rename_i h0
      cases h
      intro ad ws H locs ls cells slots cf
      have ha : inI a := cf.2.2.2.1 (vI a) (by simp)
      have hb : inI b := cf.2.2.2.1 (vI b) (by simp)
      have kk := k ad ws H locs ls cells slots (cf.st (fun w hw => cf.2.2.2.1 w (by simp [hw])))
      have ht : (pc : Int) + off = (((pc : Int) + off).toNat : Int) := by omega
      cases cd <;> simp only [sx_cmp, decide_eq_true_eq] at kk
      · exact lv_icmp_eq cx.1 cx.2.1 hd ht (fun q => by rw [if_pos ((sn_eq ha hb).mp q)] at kk; exact kk) (fun q => by rw [if_neg (fun z => q ((sn_eq ha hb).mpr z))] at kk; exact kk)
      · exact lv_icmp_ne cx.1 cx.2.1 hd ht (fun q => by rw [if_pos (fun z => q ((sn_eq ha hb).mpr z))] at kk; exact kk) (fun q => by rw [if_neg (fun z => z ((sn_eq ha hb).mp q))] at kk; exact kk)
      · exact lv_icmp_lt cx.1 cx.2.1 hd ht (fun q => by rw [if_pos ((sn_lt ha hb).mp q)] at kk; exact kk) (fun q => by rw [if_neg (fun z => q ((sn_lt ha hb).mpr z))] at kk; exact kk)
      · exact lv_icmp_ge cx.1 cx.2.1 hd ht (fun q => by rw [if_pos ((sn_le hb ha).mp q)] at kk; exact kk) (fun q => by rw [if_neg (fun z => q ((sn_le hb ha).mpr z))] at kk; exact kk)
      · exact lv_icmp_gt cx.1 cx.2.1 hd ht (fun q => by rw [if_pos ((sn_lt hb ha).mp q)] at kk; exact kk) (fun q => by rw [if_neg (fun z => q ((sn_lt hb ha).mpr z))] at kk; exact kk)
      · exact lv_icmp_le cx.1 cx.2.1 hd ht (fun q => by rw [if_pos ((sn_le ha hb).mp q)] at kk; exact kk) (fun q => by rw [if_neg (fun z => q ((sn_le ha hb).mpr z))] at kk; exact kk)
    · cases h
  · cases h
theorem so_if {cd : ClassFile.Cond} {off : Int} (cx : sx_Cx g ad0 mi p R s m args meth c) (hd : decode (sx_cod mi) pc = .ok (.ifCond cd off, 3)) (h : sx_do mi pc L T σ (.ifCond cd off) st = some (.inl (pc', L', st', T', σ'))) (k : sx_Go g ad0 mi p l e R s m args below meth c Q e1 e2 pc' L' st' T' σ') : sx_Go g ad0 mi p l e R s m args below meth c Q e1 e2 pc L st T σ := by
  simp only [sx_do] at h
  split at h
  · rename_i a st1
    split at h
    · rename_i h0
      cases h
      intro ad ws H locs ls cells slots cf
      have ha : inI a := cf.2.2.2.1 (vI a) (by simp)
      have hb : inI 0 := by omega
      have kk := k ad ws H locs ls cells slots (cf.st (fun w hw => cf.2.2.2.1 w (by simp [hw])))
      have ht : (pc : Int) + off = (((pc : Int) + off).toNat : Int) := by omega
      cases cd <;> simp only [sx_cmp, decide_eq_true_eq] at kk
      · exact lv_if_eq cx.1 cx.2.1 hd ht (fun q => by rw [if_pos ((sn_eq ha hb).mp q)] at kk; exact kk) (fun q => by rw [if_neg (fun z => q ((sn_eq ha hb).mpr z))] at kk; exact kk)
      · exact lv_if_ne cx.1 cx.2.1 hd ht (fun q => by rw [if_pos (fun z => q ((sn_eq ha hb).mpr z))] at kk; exact kk) (fun q => by rw [if_neg (fun z => z ((sn_eq ha hb).mp q))] at kk; exact kk)
      · exact lv_if_lt cx.1 cx.2.1 hd ht (fun q => by rw [if_pos ((sn_lt ha hb).mp q)] at kk; exact kk) (fun q => by rw [if_neg (fun z => q ((sn_lt ha hb).mpr z))] at kk; exact kk)
      · exact lv_if_ge cx.1 cx.2.1 hd ht (fun q => by rw [if_pos ((sn_le hb ha).mp q)] at kk; exact kk) (fun q => by rw [if_neg (fun z => q ((sn_le hb ha).mpr z))] at kk; exact kk)
      · exact lv_if_gt cx.1 cx.2.1 hd ht (fun q => by rw [if_pos ((sn_lt hb ha).mp q)] at kk; exact kk) (fun q => by rw [if_neg (fun z => q ((sn_lt hb ha).mpr z))] at kk; exact kk)
      · exact lv_if_le cx.1 cx.2.1 hd ht (fun q => by rw [if_pos ((sn_le ha hb).mp q)] at kk; exact kk) (fun q => by rw [if_neg (fun z => q ((sn_le ha hb).mpr z))] at kk; exact kk)
    · cases h
  · cases h
theorem so_table {d lo hi : Int} {offs : Array Int} {len : Nat} (cx : sx_Cx g ad0 mi p R s m args meth c) (hd : decode (sx_cod mi) pc = .ok (.tableswitch d lo hi offs, len)) (h : sx_do mi pc L T σ (.tableswitch d lo hi offs) st = some (.inl (pc', L', st', T', σ'))) (k : sx_Go g ad0 mi p l e R s m args below meth c Q e1 e2 pc' L' st' T' σ') : sx_Go g ad0 mi p l e R s m args below meth c Q e1 e2 pc L st T σ := by
  simp only [sx_do] at h
  split at h
  · rename_i a st1
    split at h
    · rename_i h0
      obtain ⟨ht, rfl, rfl, rfl, rfl⟩ := so_jmp h
      intro ad ws H locs ls cells slots cf
      have ha : inI a := cf.2.2.2.1 (vI a) (by simp)
      exact lv_tableOut cx.1 cx.2.1 hd (by rw [sn_t ha]; exact h0) ht (k ad ws H locs ls cells slots (cf.st (fun w hw => cf.2.2.2.1 w (by simp [hw]))))
    · rename_i h0
      split at h
      · rename_i o ho
        obtain ⟨ht, rfl, rfl, rfl, rfl⟩ := so_jmp h
        intro ad ws H locs ls cells slots cf
        have ha : inI a := cf.2.2.2.1 (vI a) (by simp)
        exact lv_tableIn cx.1 cx.2.1 hd (by rw [sn_t ha]; omega) (by rw [sn_t ha]; omega) (by rw [sn_t ha]; exact ho) ht (k ad ws H locs ls cells slots (cf.st (fun w hw => cf.2.2.2.1 w (by simp [hw]))))
      · cases h
  · cases h
theorem so_lookup {d : Int} {ps : Array (Int × Int)} {len : Nat} (cx : sx_Cx g ad0 mi p R s m args meth c) (hd : decode (sx_cod mi) pc = .ok (.lookupswitch d ps, len)) (h : sx_do mi pc L T σ (.lookupswitch d ps) st = some (.inl (pc', L', st', T', σ'))) (k : sx_Go g ad0 mi p l e R s m args below meth c Q e1 e2 pc' L' st' T' σ') : sx_Go g ad0 mi p l e R s m args below meth c Q e1 e2 pc L st T σ := by
  simp only [sx_do] at h
  split at h
  · rename_i a st1
    split at h
    · rename_i h0
      obtain ⟨ht, rfl, rfl, rfl, rfl⟩ := so_jmp h
      intro ad ws H locs ls cells slots cf
      have ha : inI a := cf.2.2.2.1 (vI a) (by simp)
      exact lv_lookup cx.1 cx.2.1 hd h0 (by rw [sn_t ha]) ht (k ad ws H locs ls cells slots (cf.st (fun w hw => cf.2.2.2.1 w (by simp [hw]))))
    · cases h
  · cases h
end SO1
