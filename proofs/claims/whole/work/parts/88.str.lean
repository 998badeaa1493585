/-! text constants: their use, length, signs -/
theorem lk10_ok : (List.range 14).all (fun oi => (sx_lkt.getD oi []).all (fun e => decide (e.2.1 ≠ 10) || (decide (sx_ow oi = "ScaleNets$SetText") && decide (e.1 = sx_sidx.getD e.2.2.1 0)))) = true := by decide +kernel
theorem lk10 {oi idx j b : Nat} {ps : List Nat} (h : sx_lk oi idx = some (10, j, b, ps)) : sx_ow oi = "ScaleNets$SetText" ∧ idx = sx_sidx.getD j 0 := by
  unfold sx_lk at h
  cases hf : (sx_lkt.getD oi []).find? (fun e => e.1 == idx) with
  | none => rw [hf] at h; cases h
  | some e =>
    rw [hf] at h
    have he : e.2 = (10, j, b, ps) := Option.some.inj h
    have hm := List.mem_of_find?_eq_some hf
    have hi : e.1 = idx := by
      have := List.find?_some hf
      simpa using this
    have ho : oi < 14 := by
      apply Classical.byContradiction
      intro z
      have hn : sx_lkt.getD oi [] = [] := by
        rw [List.getD_eq_getElem?_getD, List.getElem?_eq_none (by show 14 ≤ oi; omega)]
        rfl
      rw [hn] at hm
      cases hm
    have q := List.all_eq_true.mp (List.all_eq_true.mp lk10_ok oi (List.mem_range.mpr ho)) e hm
    rw [he] at q
    simp only [ne_eq, not_true_eq_false, decide_false, Bool.false_or, Bool.and_eq_true, decide_eq_true_eq] at q
    rw [hi] at q
    exact q
theorem st_l7 {j : Nat} (h : j < 7) : Int32.ofNat (([3, 2, 3, 4, 4, 5, 2] : List Nat).getD j 0) = Int32.ofInt ((sx_str j).length : Int) := by
  have : ∀ j : Fin 7, Int32.ofNat (([3, 2, 3, 4, 4, 5, 2] : List Nat).getD j.1 0) = Int32.ofInt ((sx_str j.1).length : Int) := by decide
  exact this ⟨j, h⟩
def stOk (j : Nat) (i : Int) : Prop := ¬ Int32.ofInt i < 0 ∧ Int32.ofInt i < Int32.ofNat (([3, 2, 3, 4, 4, 5, 2] : List Nat).getD j 0) ∧ vp_in (Int32.ofInt i) (([3, 2, 3, 4, 4, 5, 2] : List Nat).getD j 0) ∧ (((((sx_strs.map (fun l => l.map Int32.ofInt)).getD j []).getD (Int32.ofInt i).toNatClampNeg 0) &&& 255).toUInt32 % 65536).toInt32 = Int32.ofInt ((sx_str j).getD i.toNat 0) ∧ narrow .char (.int (Int32.ofInt ((sx_str j).getD i.toNat 0))) = .int (Int32.ofInt ((sx_str j).getD i.toNat 0))
theorem st_c7 {j : Nat} {i : Int} (h : j < 7) (h0 : 0 ≤ i) (h1 : i < ((sx_str j).length : Int)) : stOk j i ∧ inI ((sx_str j).getD i.toNat 0) := by
  rcases (show j = 0 ∨ j = 1 ∨ j = 2 ∨ j = 3 ∨ j = 4 ∨ j = 5 ∨ j = 6 by omega) with rfl | rfl | rfl | rfl | rfl | rfl | rfl
  · replace h1 : i < 3 := h1
    rcases (show i = 0 ∨ i = 1 ∨ i = 2 by omega) with rfl | rfl | rfl
    all_goals exact ⟨⟨by decide, by decide, by unfold vp_in; decide, by decide, by rfl⟩, by decide⟩
  · replace h1 : i < 2 := h1
    rcases (show i = 0 ∨ i = 1 by omega) with rfl | rfl
    all_goals exact ⟨⟨by decide, by decide, by unfold vp_in; decide, by decide, by rfl⟩, by decide⟩
  · replace h1 : i < 3 := h1
    rcases (show i = 0 ∨ i = 1 ∨ i = 2 by omega) with rfl | rfl | rfl
    all_goals exact ⟨⟨by decide, by decide, by unfold vp_in; decide, by decide, by rfl⟩, by decide⟩
  · replace h1 : i < 4 := h1
    rcases (show i = 0 ∨ i = 1 ∨ i = 2 ∨ i = 3 by omega) with rfl | rfl | rfl | rfl
    all_goals exact ⟨⟨by decide, by decide, by unfold vp_in; decide, by decide, by rfl⟩, by decide⟩
  · replace h1 : i < 4 := h1
    rcases (show i = 0 ∨ i = 1 ∨ i = 2 ∨ i = 3 by omega) with rfl | rfl | rfl | rfl
    all_goals exact ⟨⟨by decide, by decide, by unfold vp_in; decide, by decide, by rfl⟩, by decide⟩
  · replace h1 : i < 5 := h1
    rcases (show i = 0 ∨ i = 1 ∨ i = 2 ∨ i = 3 ∨ i = 4 by omega) with rfl | rfl | rfl | rfl | rfl
    all_goals exact ⟨⟨by decide, by decide, by unfold vp_in; decide, by decide, by rfl⟩, by decide⟩
  · replace h1 : i < 2 := h1
    rcases (show i = 0 ∨ i = 1 by omega) with rfl | rfl
    all_goals exact ⟨⟨by decide, by decide, by unfold vp_in; decide, by decide, by rfl⟩, by decide⟩
section SO6
variable {g : sxG} {ad0 : Nat → Nat} {mi : Nat} {p : Program} {l : Launch} {e : Env} {R : Room} {s : State} {m : MethodId} {args : Array Value} {below : List Frame} {meth : Method} {c : Code} {Q : State → Prop} {e1 e2 pc : Nat} {L : sxL} {st : List sxV} {T : sxT} {σ : sxS}
theorem so_ldcs {idx j b : Nat} {ps : List Nat} (cx : sx_Cx g ad0 mi p R s m args meth c) (hd : decode (sx_cod mi) pc = .ok (.ldc idx, 2)) (hlk : sx_lk (sx_oi mi) idx = some (10, j, b, ps)) (hj : j < 7) (k : sx_Go g ad0 mi p l e R s m args below meth c Q e1 e2 (pc + 2) L (vR (1000001 + j) :: st) T σ) : sx_Go g ad0 mi p l e R s m args below meth c Q e1 e2 pc L st T σ := by
  obtain ⟨h1, h2⟩ := lk10 hlk
  have hR := cx.2.2.2.2.2.2.2.2.1.2.2.2.2.1 j hj
  have hown := cx.2.2.2.2.2.2.1
  rw [h1] at hown
  rw [h2] at hd
  intro ad ws H locs ls cells slots cf
  have ea : ad (1000001 + j) = ad0 (1000001 + j) := cf.2.2.2.2.2.2.2.1 _ (Or.inr (by omega))
  rw [← ea] at hR
  refine va_ldcS cx.1 cx.2.1 hown hR hd ?_
  exact k ad ws H locs ls cells slots (cf.st (by
    intro w hw
    rcases List.mem_cons.mp hw with rfl | hw
    · exact Or.inr ⟨by omega, by omega⟩
    · exact cf.2.2.2.1 w hw))
/-- a text constant in the world -/
theorem so_stB (h : sx_Wd g ad0 s) {x : Nat} (h0 : 1000001 ≤ x) (h7 : x < 1000008) {ad : Nat → Nat} (hag : sx_ag e1 ad0 ad) : ∃ b, stB (sx_A g) (ad x) b (([3, 2, 3, 4, 4, 5, 2] : List Nat).getD (x - 1000001) 0) (fun k => ((sx_strs.map (fun l => l.map Int32.ofInt)).getD (x - 1000001) []).getD k 0) s := by
  obtain ⟨_, _, _, ⟨adV, hV, hz⟩, _, _⟩ := h
  obtain ⟨v1, v2, v3, v4⟩ := hV.1 (x - 1000001) (by omega)
  have ea : ad x = ad0 (1000001 + (x - 1000001)) := by rw [show 1000001 + (x - 1000001) = x by omega]; exact hag _ (Or.inr (by omega))
  rw [ea]
  exact ⟨adV (x - 1000001), v1, v2, v3, v4, hz⟩
theorem so_strlen {idx a b : Nat} {ps : List Nat} (cx : sx_Cx g ad0 mi p R s m args meth c) (hd : decode (sx_cod mi) pc = .ok (.invokevirtual idx, 3)) (hlk : sx_lk (sx_oi mi) idx = some (12, a, b, ps)) {x : Nat} (h0 : 1000001 ≤ x) (h7 : x < 1000008) (hs : st.length ≤ 4) (h1 : 5 ≤ sx_fr mi) (h2 : 120 ≤ sx_lo mi) (hc1 : T.length ≤ e1 + R.cells) (hc2 : sx_sl T ≤ e2 + R.slots) (k : sx_Go g ad0 mi p l e R s m args below meth c Q e1 e2 (pc + 3) L (vI ((sx_str (x - 1000001)).length : Int) :: st) T σ) : sx_Go g ad0 mi p l e R s m args below meth c Q e1 e2 pc L (vR x :: st) T σ := by
  have hw := sx_lk_ok hlk
  have w1 : Cond.methodLink (sx_ow (sx_oi mi)) idx st_y3 ∈ lw_tbl := by
    unfold sx_lkok at hw
    split at hw <;> rename_i e <;> first | (cases e; done) | skip
    all_goals first | (cases e; exact sx_at_mem hw) | cases hw
  have hts := cx.2.2.2.2.2.2.2.1
  have f1 := cx.2.2.2.2.2.2.2.2.2.1
  have f2 := cx.2.2.2.2.2.2.2.2.2.2.1
  intro ad ws H locs ls cells slots cf
  have e5 := cf.2.2.2.2.2.1
  have e6 := cf.2.2.2.2.2.2.1
  have hS := cf.2.2.2.2.1
  have hfix : CallFix p m c (sx_cod mi) (sx_mx mi) s args sx_gw (sx_ow (sx_oi mi)) := ⟨cx.1, cx.2.1, cx.2.2.1, cx.2.2.2.2.2.2.1, hts⟩
  obtain ⟨b', hB⟩ := so_stB (s := s) cx.2.2.2.2.2.2.2.2.1 h0 h7 cf.2.2.2.2.2.2.2.1
  refine st_run (va_runV (As := []) (b := ad x) (C := "java/lang/String") (n := 0) (bytes := prog_15_method_54_code) (maxL := 1) (ret := some .int) (rest := st.map (sx_rv ad)) hfix (st_len l (A := sx_A g) (q := ad x) (b := b') (N := ([3, 2, 3, 4, 4, 5, 2] : List Nat).getD (x - 1000001) 0) (f := fun k => ((sx_strs.map (fun l => l.map Int32.ofInt)).getD (x - 1000001) []).getD k 0)) (cwV 0 hts (st_gV st_y3_w w1 st_w472 st_w473 st_w114) rfl rfl rfl ⟨rfl, by decide, by decide, by decide⟩ ⟨by show 1 + 1 ≤ R.frames; omega, by show 8 + (1 + 11) + 20 ≤ R.locals; omega⟩) ⟨stB.bl, hB.rc hS, fun U hU hW => ⟨rfl, hB.mv hS hU hW⟩⟩ rfl rfl cf.2.1.2.1 rfl (lv_room (so_cat8 hs)) hd ⟨by omega, by omega⟩) ?_
  rw [st_l7 (show x - 1000001 < 7 by omega)]
  have st5 := (str_1 (show x - 1000001 < 7 by omega)).2
  exact k ad ws H locs ls cells slots (cf.st (by
    intro w hw
    rcases List.mem_cons.mp hw with rfl | hw
    · show inI _; omega
    · exact cf.2.2.2.1 w (by simp [hw])))
theorem so_strchr {idx a b : Nat} {ps : List Nat} (cx : sx_Cx g ad0 mi p R s m args meth c) (hd : decode (sx_cod mi) pc = .ok (.invokevirtual idx, 3)) (hlk : sx_lk (sx_oi mi) idx = some (13, a, b, ps)) {x : Nat} {i : Int} (h0 : 1000001 ≤ x) (h7 : x < 1000008) (hi0 : 0 ≤ i) (hi : i < ((sx_str (x - 1000001)).length : Int)) (hs : st.length ≤ 4) (h1 : 5 ≤ sx_fr mi) (h2 : 120 ≤ sx_lo mi) (hc1 : T.length ≤ e1 + R.cells) (hc2 : sx_sl T ≤ e2 + R.slots) (k : sx_Go g ad0 mi p l e R s m args below meth c Q e1 e2 (pc + 3) L (vI ((sx_str (x - 1000001)).getD i.toNat 0) :: st) T σ) : sx_Go g ad0 mi p l e R s m args below meth c Q e1 e2 pc L (vI i :: vR x :: st) T σ := by
  have hw := sx_lk_ok hlk
  have w1 : Cond.methodLink (sx_ow (sx_oi mi)) idx st_y7 ∈ lw_tbl := by
    unfold sx_lkok at hw
    split at hw <;> rename_i e <;> first | (cases e; done) | skip
    all_goals first | (cases e; exact sx_at_mem hw) | cases hw
  have hts := cx.2.2.2.2.2.2.2.1
  have f1 := cx.2.2.2.2.2.2.2.2.2.1
  have f2 := cx.2.2.2.2.2.2.2.2.2.2.1
  intro ad ws H locs ls cells slots cf
  have e5 := cf.2.2.2.2.2.1
  have e6 := cf.2.2.2.2.2.2.1
  have hS := cf.2.2.2.2.1
  have hfix : CallFix p m c (sx_cod mi) (sx_mx mi) s args sx_gw (sx_ow (sx_oi mi)) := ⟨cx.1, cx.2.1, cx.2.2.1, cx.2.2.2.2.2.2.1, hts⟩
  obtain ⟨b', hB⟩ := so_stB (s := s) cx.2.2.2.2.2.2.2.2.1 h0 h7 cf.2.2.2.2.2.2.2.1
  obtain ⟨⟨q1, q2, q3, q4, q5⟩, q6⟩ := st_c7 (show x - 1000001 < 7 by omega) hi0 hi
  refine st_run (va_runV (As := [.int (Int32.ofInt i)]) (b := ad x) (C := "java/lang/String") (n := 1) (bytes := prog_15_method_56_code) (maxL := 2) (ret := some .char) (rest := st.map (sx_rv ad)) hfix (st_cha l (A := sx_A g) (q := ad x) (b := b') (N := ([3, 2, 3, 4, 4, 5, 2] : List Nat).getD (x - 1000001) 0) (f := fun k => ((sx_strs.map (fun l => l.map Int32.ofInt)).getD (x - 1000001) []).getD k 0) q1 q2 q3 q4 q5) (cwV 1 hts (st_gV st_y7_w w1 st_w482 st_w483 st_w114) rfl rfl rfl ⟨rfl, by decide, by decide, by decide⟩ ⟨by show 3 + 1 ≤ R.frames; omega, by show 8 + (2 + 11) + 64 ≤ R.locals; omega⟩) ⟨stB.bl, hB.rc hS, fun U hU hW => ⟨rfl, hB.mv hS hU hW⟩⟩ rfl rfl cf.2.1.2.1 rfl (lv_room (so_cat8 hs)) hd ⟨by omega, by omega⟩) ?_
  exact k ad ws H locs ls cells slots (cf.st (by
    intro w hw
    rcases List.mem_cons.mp hw with rfl | hw
    · exact q6
    · exact cf.2.2.2.1 w (by simp [hw])))
end SO6
