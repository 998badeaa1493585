/-! the plain machine's state and the machine's -/
abbrev sxG : Type := Nat × va_G × ClassId × ClassId × ClassId × Nat × (Nat → Int32)
def sx_A (g : sxG) : Nat → Prop := fun q => g.1 ≤ q
def sx_rv (ad : Nat → Nat) (v : sxV) : Value := match v with
  | .inl i => .int (Int32.ofInt i)
  | .inr (.inl l) => .long (Int64.ofInt l)
  | .inr (.inr k) => .ref (ad k)
def sx_okV (n : Nat) (v : sxV) : Prop := match v with
  | .inl i => inI i
  | .inr (.inl l) => inJ l
  | .inr (.inr k) => k < n ∨ (1000001 ≤ k ∧ k < 1000008)
theorem sx_okV.up {n n' : Nat} {v : sxV} (h : sx_okV n v) (hn : n ≤ n') : sx_okV n' v := by
  rcases v with i | l | k
  · exact h
  · exact h
  · rcases h with h | h
    · exact Or.inl (Nat.lt_of_lt_of_le h hn)
    · exact Or.inr h
theorem sx_rv_cat {ad : Nat → Nat} {v : sxV} (h : sx_nJ v = true) : (sx_rv ad v).category = 1 := by
  rcases v with i | l | k
  · rfl
  · cases h
  · rfl
def sx_ag (n : Nat) (ad ad' : Nat → Nat) : Prop := ∀ k, k < n ∨ 1000000 ≤ k → ad' k = ad k
theorem sx_ag.rf {n : Nat} {ad : Nat → Nat} : sx_ag n ad ad := fun _ _ => rfl
theorem sx_ag.tr {n n' : Nat} {a b c : Nat → Nat} (h : sx_ag n a b) (h' : sx_ag n' b c) (hn : n ≤ n') : sx_ag n a c := fun k hk => (h' k (hk.imp (fun q => Nat.lt_of_lt_of_le q hn) id)).trans (h k hk)
theorem sx_rv_ag {n : Nat} {ad ad' : Nat → Nat} {v : sxV} (h : sx_ag n ad ad') (hv : sx_okV n v) : sx_rv ad' v = sx_rv ad v := by
  rcases v with i | l | k
  · rfl
  · rfl
  · show Value.ref _ = Value.ref _
    rw [h k (hv.imp id (fun q => by omega))]
def sx_fv (ty : FieldType) (z : Int) (r : Option Nat) : Value := match ty with
  | .long => .long (Int64.ofInt z)
  | .object _ => va_rf r
  | .array _ => va_rf r
  | _ => .int (Int32.ofInt z)
def sx_E (g : sxG) (ad : Nat → Nat) (k : Nat) (sh : Nat × Nat × List (Option Nat)) (σ : sxS) : va_E :=
  if sh.1 = 20 then .inl (g.2.2.1, sh.2.1, .inl (fun j => Int32.ofInt (σ k (j : Int))))
  else if sh.1 = 21 then .inl (g.2.2.2.1, sh.2.1, .inl (fun j => Int32.ofInt (σ k (j : Int))))
  else if sh.1 = 22 then .inl (g.2.2.2.2.1, sh.2.1, .inr (.inr (.inr (.inr (fun j => (sh.2.2.getD j none).map ad)))))
  else .inr (sh.1, (List.range sh.2.1).map (fun j => sx_fv (sx_ty sh.1 j) (σ k (j : Int)) ((sh.2.2.getD j none).map ad)))
def sx_shok (n : Nat) (sh : Nat × Nat × List (Option Nat)) : Prop := (∀ j t, sh.2.2.getD j none = some t → t < n) ∧ ((sh.1 = 20 ∨ sh.1 = 21 ∨ (sh.1 = 22 ∧ sh.2.2.length = sh.2.1)) ∨ ∃ q, sx_cls[sh.1]? = some q ∧ sh.2.1 = q.2.2 ∧ sh.2.2.length = q.2.2) ∧ sh.2.1 ≤ 100000
def sx_Rel (g : sxG) (ad : Nat → Nat) (T : sxT) (σ : sxS) (ws : va_W) (H : Heap) : Prop :=
  va_P g.2.1 sx_cls ws H ∧ va_D (sx_A g) ws ∧ ws.length + 1 = T.length ∧ (∀ k sh, T[k + 1]? = some sh → ws[k]? = some (ad (k + 1), sx_E g ad (k + 1) sh σ) ∧ sx_shok T.length sh) ∧ T.length ≤ 1000000 ∧ (∀ k j, inI (σ k j)) ∧ (∀ k j, T.length ≤ k → σ k j = 0) ∧ T[0]? = some (23, g.2.2.2.2.2.1, []) ∧ ∀ j : Nat, j < g.2.2.2.2.2.1 → σ 0 (j : Int) = (g.2.2.2.2.2.2 j).toInt
def sx_HL (ad : Nat → Nat) (L : sxL) (ls : Array Slot) (n : Nat) : Prop := L.length = n ∧ ls.size = n ∧ lv_wf ls ∧ ∀ (i : Nat) (v : sxV), L[i]? = some (some v) → ls[i]? = some (.val (sx_rv ad v))
def sx_okL (n : Nat) (L : sxL) : Prop := ∀ (i : Nat) (v : sxV), L[i]? = some (some v) → sx_okV n v ∧ sx_nJ v = true
def sx_sl (T : sxT) : Nat := (T.map (fun sh => sh.2.1)).sum
def sx_gw : List Cond := lw_tbl.filter goodWord
def sx_tys (g : sxG) : List (ClassId × FieldType) := [(g.2.2.1, .int), (g.2.2.2.1, .boolean), (g.2.2.2.2.1, .object "ScaleNets$Points")]
def sx_sidx : List Nat := [45, 51, 56, 67, 69, 71, 80]
/-- the two statics that the texts' methods read -/
def sx_Zs (A : Nat → Prop) (U : State) (H : Heap) : Prop := va_Z "java/lang/String" "COMPACT_STRINGS" "Z" (.int 1) A U H ∧ va_Zq "jdk/internal/util/Preconditions" "SIOOBE_FORMATTER" "Ljava/util/function/BiFunction;" A U H
/-- what of a state (not of our cells) is always so -/
def sx_Wd (g : sxG) (ad : Nat → Nat) (U : State) : Prop :=
  (∀ a i y h, Cond.methodLinkNest a i y h ∈ lw_tbl → va_Nw (.methodLinkNest a i y h) U) ∧ va_AO "ScaleNets$Points" U ∧ va_K g.2.1 sx_cls (sx_tys g) U ∧
  (∃ adV : Nat → Nat, vk_S 7 [3, 2, 3, 4, 4, 5, 2] (sx_strs.map (fun l => l.map Int32.ofInt)) (fun j => ad (1000001 + j)) adV (sx_A g) U U.heap ∧ sx_Zs (sx_A g) U U.heap) ∧ (∀ j : Nat, j < 7 → vk_R "ScaleNets$SetText" (sx_sidx.getD j 0) (sx_txt.getD j "") (ad (1000001 + j)) U) ∧ g.1 ≤ U.heap.size
theorem sx_Wd.moved {g : sxG} {ad ad' : Nat → Nat} {s U : State} {H : Heap} {locs : List Loc} {n : Nat} (h : sx_Wd g ad s) (hag : sx_ag n ad ad') (hS : va_S (sx_A g) s.heap H locs) (hU : U.heap = H) (hW : s.WarmedH U.vm) : sx_Wd g ad' U := by
  obtain ⟨h1, h2, h3, ⟨adV, h4, hz1, hz2⟩, h5, h6⟩ := h
  have he : (fun j => ad' (1000001 + j)) = (fun j => ad (1000001 + j)) := funext fun j => hag _ (Or.inr (by omega))
  refine ⟨fun a i y h q => va_Nw.warmM hW (h1 a i y h q), va_AO.moved hW.alike h2, va_K.moved hW.alike h3, ⟨adV, ?_, ?_⟩, fun j hj => ?_, ?_⟩
  · rw [he, hU]
    exact (vk_S.moved hW.alike h4).kept (fun a h1 h2 => hS.2.1 a h1 h2)
  · rw [hU]
    exact ⟨(va_Z.moved hW.alike hz1).kept (fun a h1 h2 => hS.2.1 a h1 h2), (va_Zq.moved hW.alike hz2).kept (fun a h1 h2 => hS.2.1 a h1 h2)⟩
  · rw [hag _ (Or.inr (by omega))]
    exact vk_R.warm hW (h5 j hj)
  · rw [hU]; exact Nat.le_trans h6 hS.1
def sx_Cx (g : sxG) (ad0 : Nat → Nat) (mi : Nat) (p : Program) (R : Room) (s : State) (m : MethodId) (args : Array Value) (meth : Method) (c : Code) : Prop :=
  p.tables.exec = Jvm.exec ∧ c.code = sx_cod mi ∧ c.maxLocals = sx_mx mi ∧ meth.sig.returnType = sx_rt mi ∧ meth.locks = false ∧ meth.name = (sx_y mi).name ∧ s.vm.findClass (sx_ow (sx_oi mi)) = some m.cls ∧ (∀ w ∈ sx_gw, w.before args s = true) ∧ sx_Wd g ad0 s ∧ sx_fr mi ≤ R.frames ∧ sx_lo mi ≤ R.locals ∧ (mi = 0 → va_X (ad0 0) g.2.2.2.2.2.1 g.2.2.2.2.2.2 s s.heap ∧ ad0 0 < s.heap.size ∧ ¬ sx_A g (ad0 0) ∧ g.2.2.2.2.2.1 ≤ 100000)
def sx_Cf (g : sxG) (ad0 : Nat → Nat) (s : State) (mi e1 e2 : Nat) (ad : Nat → Nat) (ws : va_W) (H : Heap) (locs : List Loc) (ls : Array Slot) (cells slots : Nat) (L : sxL) (st : List sxV) (T : sxT) (σ : sxS) : Prop :=
  sx_Rel g ad T σ ws H ∧ sx_HL ad L ls (sx_mx mi) ∧ sx_okL T.length L ∧ (∀ v ∈ st, sx_okV T.length v) ∧ va_S (sx_A g) s.heap H locs ∧ cells + e1 = T.length ∧ slots + e2 = sx_sl T ∧ sx_ag e1 ad0 ad ∧ 1 ≤ e1
def sx_Go (g : sxG) (ad0 : Nat → Nat) (mi : Nat) (p : Program) (l : Launch) (e : Env) (R : Room) (s : State) (m : MethodId) (args : Array Value) (below : List Frame) (meth : Method) (c : Code) (Q : State → Prop) (e1 e2 pc : Nat) (L : sxL) (st : List sxV) (T : sxT) (σ : sxS) : Prop :=
  ∀ (ad : Nat → Nat) (ws : va_W) (H : Heap) (locs : List Loc) (ls : Array Slot) (cells slots : Nat), sx_Cf g ad0 s mi e1 e2 ad ws H locs ls cells slots L st T σ → W p l e R s m args below meth c H locs cells slots Q (F0 m pc ls (st.map (sx_rv ad)))
theorem sx_Cf.st {g : sxG} {ad0 : Nat → Nat} {s : State} {mi e1 e2 : Nat} {ad : Nat → Nat} {ws : va_W} {H : Heap} {locs : List Loc} {ls : Array Slot} {cells slots : Nat} {L : sxL} {st st' : List sxV} {T : sxT} {σ : sxS} (h : sx_Cf g ad0 s mi e1 e2 ad ws H locs ls cells slots L st T σ) (hs : ∀ v ∈ st', sx_okV T.length v) : sx_Cf g ad0 s mi e1 e2 ad ws H locs ls cells slots L st' T σ :=
  ⟨h.1, h.2.1, h.2.2.1, hs, h.2.2.2.2⟩
/-- the locals as the kit has them -/
def sx_lv (ad : Nat → Nat) (L : sxL) : List (Nat × Value) := (List.range L.length).filterMap (fun i => match L[i]? with
  | some (some v) => some (i, sx_rv ad v)
  | _ => none)
theorem sx_lv_mem {ad : Nat → Nat} {L : sxL} {i : Nat} {w : Value} : (i, w) ∈ sx_lv ad L ↔ ∃ v, L[i]? = some (some v) ∧ w = sx_rv ad v := by
  unfold sx_lv
  rw [List.mem_filterMap]
  constructor
  · rintro ⟨a, h1, h2⟩
    split at h2
    · rename_i v hv
      cases h2
      exact ⟨v, hv, rfl⟩
    · cases h2
  · rintro ⟨v, h1, rfl⟩
    refine ⟨i, List.mem_range.mpr ?_, by rw [h1]⟩
    rcases Nat.lt_or_ge i L.length with q | q
    · exact q
    · rw [List.getElem?_eq_none q] at h1; cases h1
theorem sx_HL.has {ad : Nat → Nat} {L : sxL} {ls : Array Slot} {n : Nat} (h : sx_HL ad L ls n) : lv_has ls n (sx_lv ad L) := by
  refine ⟨h.2.1, h.2.2.1, fun q hq => ?_⟩
  obtain ⟨v, h1, h2⟩ := sx_lv_mem.mp (show (q.1, q.2) ∈ _ from hq)
  rw [h2]
  exact h.2.2.2 _ _ h1
theorem sx_HL.set {ad : Nat → Nat} {L : sxL} {ls ls' : Array Slot} {n k i : Nat} {v : sxV} (h : sx_HL ad L ls n) (hL : sx_okL k L) (h' : lv_has ls' n ((i, sx_rv ad v) :: (sx_lv ad L).filter (fun q => !(q.1 == i) && !(q.1 + 1 == i && q.2.category == 2)))) : sx_HL ad (L.set i (some v)) ls' n := by
  refine ⟨by rw [List.length_set]; exact h.1, h'.1, h'.2.1, fun j w hj => ?_⟩
  rw [List.getElem?_set] at hj
  split at hj
  · rename_i e
    subst e
    split at hj
    · cases hj
      exact h'.2.2 (_, _) List.mem_cons_self
    · cases hj
  · rename_i e
    refine h'.2.2 (j, sx_rv ad w) (List.mem_cons_of_mem _ (List.mem_filter.mpr ⟨sx_lv_mem.mpr ⟨w, hj, rfl⟩, ?_⟩))
    have hc := sx_rv_cat (ad := ad) (hL j w hj).2
    have e' : ¬ j = i := fun q => e q.symm
    simp [hc, e']
theorem sx_okL.set {n i : Nat} {L : sxL} {v : sxV} (h : sx_okL n L) (hv : sx_okV n v) (hj : sx_nJ v = true) : sx_okL n (L.set i (some v)) := by
  intro j w hw
  rw [List.getElem?_set] at hw
  split at hw
  · split at hw
    · cases hw; exact ⟨hv, hj⟩
    · cases hw
  · exact h j w hw
theorem sx_tb {args : Array Value} {s : State} (h : ∀ w ∈ sx_gw, w.before args s = true) {w : Cond} (hm : w ∈ lw_tbl) (hg : goodWord w = true) : w.before args s = true := h w (List.mem_filter.mpr ⟨hm, hg⟩)
theorem sx_lk_all (oi : Nat) : ∀ e ∈ sx_lkt.getD oi [], sx_lkok oi e = true := by
  rcases oi with _ | _ | _ | _ | _ | _ | _ | _ | _ | _ | _ | _ | _ | _ | n
  · exact List.all_eq_true.mp sx_lkok0
  · exact List.all_eq_true.mp sx_lkok1
  · exact List.all_eq_true.mp sx_lkok2
  · exact List.all_eq_true.mp sx_lkok3
  · exact List.all_eq_true.mp sx_lkok4
  · exact List.all_eq_true.mp sx_lkok5
  · exact List.all_eq_true.mp sx_lkok6
  · exact List.all_eq_true.mp sx_lkok7
  · exact List.all_eq_true.mp sx_lkok8
  · exact List.all_eq_true.mp sx_lkok9
  · exact List.all_eq_true.mp sx_lkok10
  · exact List.all_eq_true.mp sx_lkok11
  · exact List.all_eq_true.mp sx_lkok12
  · exact List.all_eq_true.mp sx_lkok13
  · intro e he
    exact absurd he (by simp [sx_lkt])
theorem sx_lk_ok {oi idx : Nat} {r : Nat × Nat × Nat × List Nat} (h : sx_lk oi idx = some r) : sx_lkok oi (idx, r) = true := by
  unfold sx_lk at h
  obtain ⟨e, h1, h2⟩ := Option.map_eq_some_iff.mp h
  have h3 := List.mem_of_find?_eq_some h1
  have h4 := List.find?_some h1
  have h5 := sx_lk_all oi e h3
  have h6 : e.1 = idx := by simpa using h4
  rw [← h6, ← h2]
  exact h5
theorem sx_mtlen : sx_mtr.length = 286 := by decide +kernel
theorem sx_row_mem {mi : Nat} (h1 : 1 ≤ mi) (h2 : mi < 287) : sx_row mi ∈ sx_mtr := by
  obtain ⟨k, rfl⟩ : ∃ k, mi = k + 1 := ⟨mi - 1, by omega⟩
  have hk : k < sx_mtr.length := by rw [sx_mtlen]; omega
  have e : sx_row (k + 1) = sx_mtr.getD k (x, code, 0, none, 0, 0, 0, 0, 0, 0) := rfl
  rw [e, List.getD_eq_getElem?_getD, List.getElem?_eq_getElem hk]
  exact List.getElem_mem hk
theorem sx_code_ok {mi : Nat} (h1 : 1 ≤ mi) (h2 : mi < 287) : Cond.code (sx_y mi) (sx_cod mi) (sx_mx mi) (sx_rt mi) ∈ lw_tbl := sx_ca _ (sx_row_mem h1 h2)
theorem sx_mt_ok {mi : Nat} (h1 : 1 ≤ mi) (h2 : mi < 287) : Cond.initialized (sx_y mi).cls ∈ lw_tbl ∧ (sx_y mi).cls = sx_ow (sx_oi mi) ∧ plainName (sx_y mi).cls = true ∧ (sx_y mi).cls ≠ "java/lang/invoke/MethodHandle" ∧ (sx_y mi).cls ≠ "java/lang/invoke/VarHandle" ∧ (sx_ci mi = 99 ∨ (sx_cls[sx_ci mi]?).map (fun q => q.1) = some (sx_y mi).cls) := by
  have h := sx_mtall _ (sx_row_mem h1 h2)
  simp only [sx_mtok, Bool.and_eq_true, Bool.or_eq_true, decide_eq_true_eq] at h
  exact ⟨sx_at_mem h.1.1.1.1.1, h.1.1.1.1.2, h.1.1.1.2, h.1.1.2, h.1.2, h.2⟩
