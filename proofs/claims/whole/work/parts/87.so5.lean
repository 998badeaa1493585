/-! calls of the JDK's own that the machine has rows for -/
theorem sx_w_max : Cond.code Lib.Math.max.name Lib.Math.max.code 2 (some .int) ∈ lw_tbl := sx_in3 (List.mem_of_getElem? (i := 25) (by decide +kernel))
theorem sx_w_min : Cond.code Lib.Math.min.name Lib.Math.min.code 2 (some .int) ∈ lw_tbl := sx_in3 (List.mem_of_getElem? (i := 149) (by decide +kernel))
theorem sx_w_abs : Cond.code Lib.Math.abs.name Lib.Math.abs.code 1 (some .int) ∈ lw_tbl := sx_in3 (List.mem_of_getElem? (i := 22) (by decide +kernel))
section SO5
variable {g : sxG} {ad0 : Nat → Nat} {mi : Nat} {p : Program} {l : Launch} {e : Env} {R : Room} {s : State} {m : MethodId} {args : Array Value} {below : List Frame} {meth : Method} {c : Code} {Q : State → Prop} {e1 e2 pc : Nat} {L : sxL} {st : List sxV} {T : sxT} {σ : sxS}
variable {pc' : Nat} {L' : sxL} {st' : List sxV} {T' : sxT} {σ' : sxS}
theorem so_cat (vs : List Value) : (vs.map fun v => v.category).sum ≤ 2 * vs.length := by
  induction vs with
  | nil => simp
  | cons v vs ih =>
    have : v.category ≤ 2 := by cases v <;> simp [Value.category]
    simp only [List.map_cons, List.sum_cons, List.length_cons]
    omega
theorem so_cat8 {ad : Nat → Nat} {st : List sxV} (h : st.length ≤ 4) : ((st.map (sx_rv ad)).map fun v => v.category).sum ≤ 8 := by
  have := so_cat (st.map (sx_rv ad))
  rw [List.length_map] at this
  omega
theorem so_init {idx a b : Nat} {ps : List Nat} (cx : sx_Cx g ad0 mi p R s m args meth c) (hd : decode (sx_cod mi) pc = .ok (.invokespecial idx, 3)) (hlk : sx_lk (sx_oi mi) idx = some (7, a, b, ps)) {r : Nat} (hs : st.length ≤ 4) (h1 : 1 ≤ sx_fr mi) (h2 : 20 ≤ sx_lo mi) (k : sx_Go g ad0 mi p l e R s m args below meth c Q e1 e2 (pc + 3) L st T σ) : sx_Go g ad0 mi p l e R s m args below meth c Q e1 e2 pc L (vR r :: st) T σ := by
  have hw := sx_lk_ok hlk
  obtain ⟨w1, w2, w3⟩ : Cond.methodLink (sx_ow (sx_oi mi)) idx Lib.objectInit ∈ lw_tbl ∧ Cond.instanceMethod Lib.objectInit ∈ lw_tbl ∧ Cond.code Lib.objectInit ⟨#[0xb1]⟩ 1 none ∈ lw_tbl := by
    unfold sx_lkok at hw
    split at hw <;> rename_i e <;> first | (cases e; done) | skip
    all_goals first | (cases e; simp only [Bool.and_eq_true] at hw; exact ⟨sx_at_mem hw.1.1, sx_at_mem hw.1.2, sx_at_mem hw.2⟩) | cases hw
  have hts := cx.2.2.2.2.2.2.2.1
  intro ad ws H locs ls cells slots cf
  have hr : 2 * (F0 m pc ls (List.map (sx_rv ad) (vR r :: st))).monitorRoom + ((List.map (sx_rv ad) st).map fun v => v.category).sum ≤ 8 := lv_room (so_cat8 (ad := ad) hs)
  refine W.objInit cx.1 cx.2.1 cx.2.2.2.2.2.2.1 (sx_tb hts w1 rfl) (sx_tb hts w2 rfl) (sx_tb hts w3 rfl) rfl (by rw [cx.2.2.1]; exact cf.2.1.2.1) rfl hd (Nat.le_trans h1 cx.2.2.2.2.2.2.2.2.2.1) (Nat.le_trans (by omega) (Nat.le_trans h2 cx.2.2.2.2.2.2.2.2.2.2.1)) ?_
  exact k ad ws H locs ls cells slots (cf.st fun w hw => cf.2.2.2.1 w (by simp [hw]))
theorem so_max {idx a b : Nat} {ps : List Nat} (cx : sx_Cx g ad0 mi p R s m args meth c) (hd : decode (sx_cod mi) pc = .ok (.invokestatic idx, 3)) (hlk : sx_lk (sx_oi mi) idx = some (15, a, b, ps)) {x y : Int} (hs : st.length ≤ 4) (h1 : 1 ≤ sx_fr mi) (h2 : 30 ≤ sx_lo mi) (hc1 : T.length ≤ e1 + R.cells) (hc2 : sx_sl T ≤ e2 + R.slots) (k : sx_Go g ad0 mi p l e R s m args below meth c Q e1 e2 (pc + 3) L (vI (max x y) :: st) T σ) : sx_Go g ad0 mi p l e R s m args below meth c Q e1 e2 pc L (vI y :: vI x :: st) T σ := by
  have hw := sx_lk_ok hlk
  obtain ⟨w1, w2, w3⟩ : Cond.methodLink (sx_ow (sx_oi mi)) idx Lib.Math.max.name ∈ lw_tbl ∧ Cond.static Lib.Math.max.name ∈ lw_tbl ∧ Cond.initialized "java/lang/Math" ∈ lw_tbl := by
    unfold sx_lkok at hw
    split at hw <;> rename_i e <;> first | (cases e; done) | skip
    all_goals first | (cases e; simp only [Bool.and_eq_true] at hw; exact ⟨sx_at_mem hw.1.1, sx_at_mem hw.1.2, sx_at_mem hw.2⟩) | cases hw
  have hts := cx.2.2.2.2.2.2.2.1
  intro ad ws H locs ls cells slots cf
  have hx : inI x := cf.2.2.2.1 (vI x) (by simp)
  have hy : inI y := cf.2.2.2.1 (vI y) (by simp)
  have e5 := cf.2.2.2.2.2.1
  have e6 := cf.2.2.2.2.2.2.1
  have := so_cat8 (ad := ad) hs
  refine va_mmax cx.1 cx.2.1 (by rw [cx.2.2.1]; exact cf.2.1.2.1.symm) cx.2.2.2.2.2.2.1 (sx_tb hts w1 rfl) (sx_tb hts w2 rfl) (sx_tb hts w3 rfl) (sx_tb hts sx_w_max rfl) (Nat.le_trans h1 cx.2.2.2.2.2.2.2.2.2.1) (Nat.le_trans (by omega) (Nat.le_trans h2 cx.2.2.2.2.2.2.2.2.2.2.1)) (by omega) (by omega) hd ?_
  rw [show (if Int32.ofInt x < Int32.ofInt y then Int32.ofInt y else Int32.ofInt x) = Int32.ofInt (max x y) from ?_]
  · exact k ad ws H locs ls cells slots (cf.st (by
      intro w hw
      rcases List.mem_cons.mp hw with rfl | hw
      · show inI _; omega
      · exact cf.2.2.2.1 w (by simp [hw])))
  · by_cases z : x < y
    · rw [if_pos ((sn_lt hx hy).mpr z)]; congr 1; omega
    · rw [if_neg (fun q => z ((sn_lt hx hy).mp q))]; congr 1; omega
theorem so_min {idx a b : Nat} {ps : List Nat} (cx : sx_Cx g ad0 mi p R s m args meth c) (hd : decode (sx_cod mi) pc = .ok (.invokestatic idx, 3)) (hlk : sx_lk (sx_oi mi) idx = some (16, a, b, ps)) {x y : Int} (hs : st.length ≤ 4) (h1 : 1 ≤ sx_fr mi) (h2 : 30 ≤ sx_lo mi) (hc1 : T.length ≤ e1 + R.cells) (hc2 : sx_sl T ≤ e2 + R.slots) (k : sx_Go g ad0 mi p l e R s m args below meth c Q e1 e2 (pc + 3) L (vI (min x y) :: st) T σ) : sx_Go g ad0 mi p l e R s m args below meth c Q e1 e2 pc L (vI y :: vI x :: st) T σ := by
  have hw := sx_lk_ok hlk
  obtain ⟨w1, w2, w3⟩ : Cond.methodLink (sx_ow (sx_oi mi)) idx Lib.Math.min.name ∈ lw_tbl ∧ Cond.static Lib.Math.min.name ∈ lw_tbl ∧ Cond.initialized "java/lang/Math" ∈ lw_tbl := by
    unfold sx_lkok at hw
    split at hw <;> rename_i e <;> first | (cases e; done) | skip
    all_goals first | (cases e; simp only [Bool.and_eq_true] at hw; exact ⟨sx_at_mem hw.1.1, sx_at_mem hw.1.2, sx_at_mem hw.2⟩) | cases hw
  have hts := cx.2.2.2.2.2.2.2.1
  intro ad ws H locs ls cells slots cf
  have hx : inI x := cf.2.2.2.1 (vI x) (by simp)
  have hy : inI y := cf.2.2.2.1 (vI y) (by simp)
  have e5 := cf.2.2.2.2.2.1
  have e6 := cf.2.2.2.2.2.2.1
  have := so_cat8 (ad := ad) hs
  refine va_mmin cx.1 cx.2.1 (by rw [cx.2.2.1]; exact cf.2.1.2.1.symm) cx.2.2.2.2.2.2.1 (sx_tb hts w1 rfl) (sx_tb hts w2 rfl) (sx_tb hts w3 rfl) (sx_tb hts sx_w_min rfl) (Nat.le_trans h1 cx.2.2.2.2.2.2.2.2.2.1) (Nat.le_trans (by omega) (Nat.le_trans h2 cx.2.2.2.2.2.2.2.2.2.2.1)) (by omega) (by omega) hd ?_
  rw [show (if Int32.ofInt y < Int32.ofInt x then Int32.ofInt y else Int32.ofInt x) = Int32.ofInt (min x y) from ?_]
  rotate_left
  · by_cases z : y < x
    · rw [if_pos ((sn_lt hy hx).mpr z)]; congr 1; omega
    · rw [if_neg (fun q => z ((sn_lt hy hx).mp q))]; congr 1; omega
  exact k ad ws H locs ls cells slots (cf.st (by
      intro w hw
      rcases List.mem_cons.mp hw with rfl | hw
      · show inI _; omega
      · exact cf.2.2.2.1 w (by simp [hw])))
theorem so_abs {idx a b : Nat} {ps : List Nat} (cx : sx_Cx g ad0 mi p R s m args meth c) (hd : decode (sx_cod mi) pc = .ok (.invokestatic idx, 3)) (hlk : sx_lk (sx_oi mi) idx = some (17, a, b, ps)) {x : Int} (hs : st.length ≤ 4) (h1 : 1 ≤ sx_fr mi) (h2 : 30 ≤ sx_lo mi) (hi : inI (-x)) (hc1 : T.length ≤ e1 + R.cells) (hc2 : sx_sl T ≤ e2 + R.slots) (k : sx_Go g ad0 mi p l e R s m args below meth c Q e1 e2 (pc + 3) L (vI (if 0 ≤ x then x else -x) :: st) T σ) : sx_Go g ad0 mi p l e R s m args below meth c Q e1 e2 pc L (vI x :: st) T σ := by
  have hw := sx_lk_ok hlk
  obtain ⟨w1, w2, w3⟩ : Cond.methodLink (sx_ow (sx_oi mi)) idx Lib.Math.abs.name ∈ lw_tbl ∧ Cond.static Lib.Math.abs.name ∈ lw_tbl ∧ Cond.initialized "java/lang/Math" ∈ lw_tbl := by
    unfold sx_lkok at hw
    split at hw <;> rename_i e <;> first | (cases e; done) | skip
    all_goals first | (cases e; simp only [Bool.and_eq_true] at hw; exact ⟨sx_at_mem hw.1.1, sx_at_mem hw.1.2, sx_at_mem hw.2⟩) | cases hw
  have hts := cx.2.2.2.2.2.2.2.1
  intro ad ws H locs ls cells slots cf
  have hx : inI x := cf.2.2.2.1 (vI x) (by simp)
  have e5 := cf.2.2.2.2.2.1
  have e6 := cf.2.2.2.2.2.2.1
  have := so_cat8 (ad := ad) hs
  refine va_mabs cx.1 cx.2.1 (by rw [cx.2.2.1]; exact cf.2.1.2.1.symm) cx.2.2.2.2.2.2.1 (sx_tb hts w1 rfl) (sx_tb hts w2 rfl) (sx_tb hts w3 rfl) (sx_tb hts sx_w_abs rfl) (Nat.le_trans h1 cx.2.2.2.2.2.2.2.2.2.1) (Nat.le_trans (by omega) (Nat.le_trans h2 cx.2.2.2.2.2.2.2.2.2.2.1)) (by omega) (by omega) hd ?_
  rw [show (if 0 ≤ Int32.ofInt x then Int32.ofInt x else 0 - Int32.ofInt x) = Int32.ofInt (if 0 ≤ x then x else -x) from ?_]
  · exact k ad ws H locs ls cells slots (cf.st (by
      intro w hw
      rcases List.mem_cons.mp hw with rfl | hw
      · show inI _; split <;> omega
      · exact cf.2.2.2.1 w (by simp [hw])))
  · by_cases z : 0 ≤ x
    · rw [if_pos (show (0 : Int32) ≤ Int32.ofInt x from (sn_le (a := 0) (by omega) hx).mpr z), if_pos z]
    · rw [if_neg (show ¬ (0 : Int32) ≤ Int32.ofInt x from fun q => z ((sn_le (a := 0) (by omega) hx).mp q)), if_neg z, sn_0, sn_sub]; congr 1; omega
theorem so_copy {idx a b : Nat} {ps : List Nat} (cx : sx_Cx g ad0 mi p R s m args meth c) (hd : decode (sx_cod mi) pc = .ok (.invokestatic idx, 3)) (hlk : sx_lk (sx_oi mi) idx = some (11, a, b, ps)) {n dp sp : Int} {x y : Nat} (hx : sx_kd T x = 20) (hy : sx_kd T y = 20) (p1 : 0 ≤ sp) (p2 : 0 ≤ dp) (p3 : 0 ≤ n) (p4 : sp + n ≤ sx_ln T x) (p5 : dp + n ≤ sx_ln T y) (hs : st.length ≤ 4) (h1 : 1 ≤ sx_fr mi) (h2 : 60 ≤ sx_lo mi) (k : sx_Go g ad0 mi p l e R s m args below meth c Q e1 e2 (pc + 3) L st T (sx_cpy σ x sp y dp n)) : sx_Go g ad0 mi p l e R s m args below meth c Q e1 e2 pc L (vI n :: vI dp :: vR y :: vI sp :: vR x :: st) T σ := by
  have hw := sx_lk_ok hlk
  obtain ⟨w1, w2, w3, w4⟩ : Cond.methodLink (sx_ow (sx_oi mi)) idx arraycopyName ∈ lw_tbl ∧ Cond.native arraycopyName ∈ lw_tbl ∧ Cond.static arraycopyName ∈ lw_tbl ∧ Cond.initialized "java/lang/System" ∈ lw_tbl := by
    unfold sx_lkok at hw
    split at hw <;> rename_i e <;> first | (cases e; done) | skip
    all_goals first | (cases e; simp only [Bool.and_eq_true] at hw; exact ⟨sx_at_mem hw.1.1.1, sx_at_mem hw.1.1.2, sx_at_mem hw.1.2, sx_at_mem hw.2⟩) | cases hw
  have hts := cx.2.2.2.2.2.2.2.1
  intro ad ws H locs ls cells slots cf
  have hR := cf.1
  have i1 : inI n := cf.2.2.2.1 (vI n) (by simp)
  have i2 : inI dp := cf.2.2.2.1 (vI dp) (by simp)
  have i3 : inI sp := cf.2.2.2.1 (vI sp) (by simp)
  have hK := cx.2.2.2.2.2.2.2.2.1.2.2.1
  obtain ⟨k0, sh, rfl, hT, hs1, hs2, hs3, -, hs4, hws⟩ := hR.arr hx (by omega) (by omega)
  obtain ⟨k1, sh1, rfl, hT1, hr1, hr2, hr3, -, hr4, hwr⟩ := hR.arr hy (by omega) (by omega)
  have hE : ∀ (z : Nat) (s2 : Nat × Nat × List (Option Nat)) (τ : sxS), s2.1 = 20 → sx_E g ad z s2 τ = .inl (g.2.2.1, s2.2.1, .inl (fun j => Int32.ofInt (τ z (j : Int)))) := by intro z s2 τ hz; unfold sx_E; rw [if_pos hz]
  rw [hE _ _ _ hs1] at hws
  rw [hE _ _ _ hr1] at hwr
  rw [hs2] at p4
  rw [hr2] at p5
  have c8 := so_cat8 (ad := ad) hs
  refine va_copyi (ty := .int) cx.1 cx.2.1 (by rw [cx.2.2.1]; exact cf.2.1.2.1.symm) cx.2.2.2.2.2.2.1 (sx_tb hts w1 rfl) (sx_tb hts w2 rfl) (sx_tb hts w3 rfl) (sx_tb hts w4 rfl) hK hR.1 hR.2.1 cf.2.2.2.2.1 k0 k1 0 0 hws hwr rfl rfl rfl (sn_pos p1 i3) (sn_pos p2 i2) (sn_pos p3 i1) (by rw [sn_clamp p1 i3, sn_clamp p3 i1]; omega) (by rw [sn_clamp p2 i2, sn_clamp p3 i1]; omega) (fun i _ => rfl) (Nat.le_trans h1 cx.2.2.2.2.2.2.2.2.2.1) (Nat.le_trans (show _ ≤ 60 by show _ + (7 + 11) ≤ 60; omega) (Nat.le_trans h2 cx.2.2.2.2.2.2.2.2.2.2.1)) hd (fun H1 locs1 hP1 hD1 hS1 => ?_)
  refine k ad _ H1 locs1 ls cells slots ⟨hR.upd hT1 (fun k hk j => by unfold sx_cpy; rw [if_neg (fun z => hk z.1)]) (fun j => ?_) ?_ hP1 hD1, cf.2.1, cf.2.2.1, fun w hw => cf.2.2.2.1 w (by simp [hw]), hS1, cf.2.2.2.2.2⟩
  · unfold sx_cpy; split
    · exact hR.2.2.2.2.2.1 _ _
    · exact hR.2.2.2.2.2.1 _ _
  · rw [hE _ _ _ hr1]
    refine congrArg Sum.inl (congrArg (Prod.mk _) (congrArg (Prod.mk _) (congrArg Sum.inl (funext fun j => ?_))))
    unfold va_cpy sx_cpy
    rw [sn_clamp p1 i3, sn_clamp p2 i2, sn_clamp p3 i1]
    by_cases z : dp.toNat ≤ j ∧ j < dp.toNat + n.toNat
    · rw [if_pos z, if_pos ⟨rfl, by omega, by omega⟩]
      show Int32.ofInt (σ (k0 + 1) ((sp.toNat + (j - dp.toNat) : Nat) : Int)) = Int32.ofInt (σ (k0 + 1) (sp + ((j : Int) - dp)))
      rw [show ((sp.toNat + (j - dp.toNat) : Nat) : Int) = sp + ((j : Int) - dp) by omega]
    · rw [if_neg z, if_neg (fun y => z ⟨by omega, by omega⟩)]
end SO5
