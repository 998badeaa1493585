/-! new arrays, calls of the JDK's own -/
theorem sx_w_aI : Cond.arrayClass .int ∈ lw_tbl := sx_in1 (List.mem_of_getElem? (i := 45) rfl)
theorem sx_w_aZ : Cond.arrayClass .boolean ∈ lw_tbl := sx_in1 (List.mem_of_getElem? (i := 208) rfl)
section SO4
variable {g : sxG} {ad0 : Nat → Nat} {mi : Nat} {p : Program} {l : Launch} {e : Env} {R : Room} {s : State} {m : MethodId} {args : Array Value} {below : List Frame} {meth : Method} {c : Code} {Q : State → Prop} {e1 e2 pc : Nat} {L : sxL} {st : List sxV} {T : sxT} {σ : sxS}
variable {pc' : Nat} {L' : sxL} {st' : List sxV} {T' : sxT} {σ' : sxS}
/-- behind a new cell: the state goes on with its number -/
theorem so_pushed {ad : Nat → Nat} {ws : va_W} {H H1 : Heap} {locs : List Loc} {ls : Array Slot} {cells slots a : Nat} {sh : Nat × Nat × List (Option Nat)} {x : va_E} {st1 : List sxV} (cf : sx_Cf g ad0 s mi e1 e2 ad ws H locs ls cells slots L st T σ) (hst : ∀ v ∈ st1, v ∈ st) (hTl : T.length < 1000000) (hok : sx_shok (T.length + 1) sh) (hx : x = sx_E g (fun k => if k = T.length then a else ad k) T.length sh σ) (hP : va_P g.2.1 sx_cls (ws ++ [(a, x)]) H1) (hD : va_D (sx_A g) (ws ++ [(a, x)])) (hS : va_S (sx_A g) s.heap H1 locs) (k : sx_Go g ad0 mi p l e R s m args below meth c Q e1 e2 pc' L (vR T.length :: st1) (T ++ [sh]) σ) : W p l e R s m args below meth c H1 locs (cells + 1) (slots + sh.2.1) Q (F0 m pc' ls (.ref a :: List.map (sx_rv ad) st1)) := by
  have hR := cf.1
  have hlen : (T ++ [sh]).length = T.length + 1 := by simp
  have hsl : sx_sl (T ++ [sh]) = sx_sl T + sh.2.1 := by simp [sx_sl]
  have e5 := cf.2.2.2.2.2.1
  have e6 := cf.2.2.2.2.2.2.1
  have hag : sx_ag T.length ad (fun z => if z = T.length then a else ad z) := fun z hz => if_neg (by omega)
  have hRn := hR.push hTl hok hx hP hD
  have kk := k (fun z => if z = T.length then a else ad z) _ H1 locs ls (cells + 1) (slots + sh.2.1) ⟨hRn, ⟨cf.2.1.1, cf.2.1.2.1, cf.2.1.2.2.1, fun i v hv => by rw [sx_rv_ag hag (cf.2.2.1 i v hv).1]; exact cf.2.1.2.2.2 i v hv⟩, fun i v hv => ⟨(cf.2.2.1 i v hv).1.up (by omega), (cf.2.2.1 i v hv).2⟩, fun w hw => by
      rcases List.mem_cons.mp hw with rfl | hw
      · exact Or.inl (by omega)
      · exact (cf.2.2.2.1 w (hst w hw)).up (by omega), hS, by rw [hlen]; omega, by rw [hsl]; omega, cf.2.2.2.2.2.2.2.1.tr hag (by omega), cf.2.2.2.2.2.2.2.2⟩
  have hst : List.map (sx_rv (fun z => if z = T.length then a else ad z)) (vR T.length :: st1) = .ref a :: List.map (sx_rv ad) st1 := by
    rw [List.map_cons]
    congr 1
    · show Value.ref (if T.length = T.length then a else ad T.length) = _
      rw [if_pos rfl]
    · exact List.map_congr_left fun v hv => sx_rv_ag hag (cf.2.2.2.1 v (hst v hv))
  rw [hst] at kk
  exact kk
theorem so_cA {U : State} {a b : ClassId} {t : FieldType} (h1 : U.vm.findClass ("[" ++ t.toString) = some a) (h2 : U.vm.findClass ("[" ++ t.toString) = some b) : a = b := by
  rw [h1] at h2; exact Option.some.inj h2
theorem so_newaI (cx : sx_Cx g ad0 mi p R s m args meth c) {at' : ArrayType} {kd : Nat} (hkd : (at' = .int ∧ kd = 20) ∨ (at' = .boolean ∧ kd = 21)) (hd : decode (sx_cod mi) pc = .ok (.newarray at', 2)) (h : sx_newa (pc + 2) kd L st T σ = some (.inl (pc', L', st', T', σ'))) (hc1 : T'.length ≤ e1 + R.cells) (hc2 : sx_sl T' ≤ e2 + R.slots) (k : sx_Go g ad0 mi p l e R s m args below meth c Q e1 e2 pc' L' st' T' σ') : sx_Go g ad0 mi p l e R s m args below meth c Q e1 e2 pc L st T σ := by
  unfold sx_newa at h
  split at h
  · rename_i n st1
    split at h
    · rename_i hc
      obtain ⟨h0, hn, hTl⟩ := hc
      cases h
      intro ad ws H locs ls cells slots cf
      have hR := cf.1
      have hi : inI n := cf.2.2.2.1 (vI n) (by simp)
      have hts := cx.2.2.2.2.2.2.2.1
      have hK := cx.2.2.2.2.2.2.2.2.1.2.2.1
      have hA : ∀ z : Nat, s.heap.size ≤ z → sx_A g z := fun z hz => Nat.le_trans cx.2.2.2.2.2.2.2.2.1.2.2.2.2.2 hz
      have e5 := cf.2.2.2.2.2.1
      have e6 := cf.2.2.2.2.2.2.1
      have hc1 : T.length + 1 ≤ e1 + R.cells := by simpa using hc1
      have hc2 : sx_sl T + n.toNat ≤ e2 + R.slots := by simpa [sx_sl] using hc2
      have hz : (fun j : Nat => Int32.ofInt (σ T.length (j : Int))) = (fun _ => 0) := funext fun j => by rw [hR.2.2.2.2.2.2.1 _ _ (Nat.le_refl _)]; rfl
      rcases hkd with ⟨rfl, rfl⟩ | ⟨rfl, rfl⟩
      · refine va_newa (atype := .int) (ty := .int) (n := Int32.ofInt n) (N' := n.toNat) (a0 := (n.toNat, .inl (fun _ => 0))) cx.1 cx.2.1 (sx_tb hts sx_w_aI rfl) rfl hK hR.1 hR.2.1 cf.2.2.2.2.1 hA (fun cA => rfl) (sn_pos h0 hi) (sn_clamp h0 hi) (by show n.toNat * 4 ≤ _; omega) (by omega) (by omega) hd (fun a cA H1 hK1 hP1 hD1 hS1 => ?_)
        have hcA : cA = g.2.2.1 := so_cA (hK1.2 3 _ rfl).2 (hK1.2 0 _ rfl).2
        subst hcA
        refine so_pushed (sh := (20, n.toNat, List.replicate (if 20 = 22 then n.toNat else 0) none)) cf (fun v hv => by simp [hv]) hTl ⟨fun j t hj => (by simp at hj), Or.inl (Or.inl rfl), by show n.toNat ≤ 100000; omega⟩ ?_ hP1 hD1 hS1 k
        unfold sx_E
        rw [if_pos rfl, hz]
      · refine va_newa (atype := .boolean) (ty := .boolean) (n := Int32.ofInt n) (N' := n.toNat) (a0 := (n.toNat, .inl (fun _ => 0))) cx.1 cx.2.1 (sx_tb hts sx_w_aZ rfl) rfl hK hR.1 hR.2.1 cf.2.2.2.2.1 hA (fun cA => rfl) (sn_pos h0 hi) (sn_clamp h0 hi) (by show n.toNat * 1 ≤ _; omega) (by omega) (by omega) hd (fun a cA H1 hK1 hP1 hD1 hS1 => ?_)
        have hcA : cA = g.2.2.2.1 := so_cA (hK1.2 3 _ rfl).2 (hK1.2 1 _ rfl).2
        subst hcA
        refine so_pushed (sh := (21, n.toNat, List.replicate (if 21 = 22 then n.toNat else 0) none)) cf (fun v hv => by simp [hv]) hTl ⟨fun j t hj => (by simp at hj), Or.inl (Or.inr (Or.inl rfl)), by show n.toNat ≤ 100000; omega⟩ ?_ hP1 hD1 hS1 k
        unfold sx_E
        rw [if_neg (by simp), if_pos rfl, hz]
    · cases h
  · cases h
theorem so_newaP (cx : sx_Cx g ad0 mi p R s m args meth c) {idx : Nat} (hd : decode (sx_cod mi) pc = .ok (.anewarray idx, 3)) (h : sx_do mi pc L T σ (.anewarray idx) st = some (.inl (pc', L', st', T', σ'))) (hc1 : T'.length ≤ e1 + R.cells) (hc2 : sx_sl T' ≤ e2 + R.slots) (k : sx_Go g ad0 mi p l e R s m args below meth c Q e1 e2 pc' L' st' T' σ') : sx_Go g ad0 mi p l e R s m args below meth c Q e1 e2 pc L st T σ := by
  simp only [sx_do] at h
  split at h
  · rename_i ps hlk
    have h1 := sx_lk_ok hlk
    have w1 : Cond.classLink (sx_ow (sx_oi mi)) idx RX3 ∈ lw_tbl := by
      unfold sx_lkok at h1
      split at h1 <;> rename_i e <;> first | (cases e; done) | skip
      · cases e
        simp only [Bool.and_eq_true, show sx_cls[2]? = some (RX3, TX3, 7) from rfl] at h1
        exact sx_at_mem h1.1.1.1
      all_goals first | (cases e; done) | cases h1
    unfold sx_newa at h
    split at h
    · rename_i n st1
      split at h
      · rename_i hc
        obtain ⟨h0, hn, hTl⟩ := hc
        cases h
        intro ad ws H locs ls cells slots cf
        have hR := cf.1
        have hi : inI n := cf.2.2.2.1 (vI n) (by simp)
        have hts := cx.2.2.2.2.2.2.2.1
        have hK := cx.2.2.2.2.2.2.2.2.1.2.2.1
        have hA : ∀ z : Nat, s.heap.size ≤ z → sx_A g z := fun z hz => Nat.le_trans cx.2.2.2.2.2.2.2.2.1.2.2.2.2.2 hz
        have e5 := cf.2.2.2.2.2.1
        have e6 := cf.2.2.2.2.2.2.1
        have hc1 : T.length + 1 ≤ e1 + R.cells := by simpa using hc1
        have hc2 : sx_sl T + n.toNat ≤ e2 + R.slots := by simpa [sx_sl] using hc2
        refine va_newq (C := RX3) (n := Int32.ofInt n) (N' := n.toNat) cx.1 cx.2.1 cx.2.2.2.2.2.2.1 (sx_tb hts w1 rfl) cx.2.2.2.2.2.2.2.2.1.2.1 hK hR.1 hR.2.1 cf.2.2.2.2.1 hA (sn_pos h0 hi) (sn_clamp h0 hi) (by omega) (by omega) (by omega) hd (fun a cA H1 hK1 hP1 hD1 hS1 => ?_)
        obtain ⟨-, -, -, -, -, y1⟩ := (hK1.2 3 _ rfl).2
        obtain ⟨-, -, -, -, -, y2⟩ := (hK1.2 2 _ rfl).2
        have hcA : cA = g.2.2.2.2.1 := so_cA y1 y2
        subst hcA
        have hgn : ∀ j : Nat, (List.replicate n.toNat (none : Option Nat)).getD j none = none := by
          intro j
          rw [List.getD_eq_getElem?_getD, List.getElem?_replicate]
          split <;> rfl
        refine so_pushed (sh := (22, n.toNat, List.replicate (if 22 = 22 then n.toNat else 0) none)) cf (fun v hv => by simp [hv]) hTl ⟨fun j t hj => (by rw [if_pos rfl, hgn] at hj; cases hj), Or.inl (Or.inr (Or.inr ⟨rfl, by simp⟩)), by show n.toNat ≤ 100000; omega⟩ ?_ hP1 hD1 hS1 k
        unfold sx_E
        rw [if_neg (by simp), if_neg (by simp), if_pos rfl]
        refine congrArg Sum.inl (congrArg (Prod.mk _) (congrArg (Prod.mk _) (congrArg Sum.inr (congrArg Sum.inr (congrArg Sum.inr (congrArg Sum.inr (funext fun j => ?_)))))))
        show none = Option.map _ _
        rw [if_pos rfl, hgn]
        rfl
      · cases h
    · cases h
  · cases h
end SO4
