/-! the texts: their own methods, by contract -/
abbrev st_y1 : MethodName := ⟨"java/lang/String", "coder", "()B"⟩
theorem st_y1_w : Cond.code st_y1 prog_15_method_152_code 1 (some .byte) ∈ lw_tbl := sx_in2 (List.mem_of_getElem? (i := 136) rfl)
abbrev st_y2 : MethodName := ⟨"java/lang/String", "isLatin1", "()Z"⟩
theorem st_y2_w : Cond.code st_y2 prog_15_method_154_code 1 (some .boolean) ∈ lw_tbl := sx_in2 (List.mem_of_getElem? (i := 146) rfl)
abbrev st_y3 : MethodName := ⟨"java/lang/String", "length", "()I"⟩
theorem st_y3_w : Cond.code st_y3 prog_15_method_54_code 1 (some .int) ∈ lw_tbl := sx_in2 (List.mem_of_getElem? (i := 132) rfl)
abbrev st_y4 : MethodName := ⟨"jdk/internal/util/Preconditions", "checkIndex", "(IILjava/util/function/BiFunction;)I"⟩
theorem st_y4_w : Cond.code st_y4 prog_20_method_11_code 3 (some .int) ∈ lw_tbl := sx_in2 (List.mem_of_getElem? (i := 157) rfl)
abbrev st_y5 : MethodName := ⟨"java/lang/String", "checkIndex", "(II)V"⟩
theorem st_y5_w : Cond.code st_y5 prog_15_method_155_code 2 none ∈ lw_tbl := sx_in2 (List.mem_of_getElem? (i := 152) rfl)
abbrev st_y6 : MethodName := ⟨"java/lang/StringLatin1", "charAt", "([BI)C"⟩
theorem st_y6_w : Cond.code st_y6 prog_16_method_2_code 2 (some .char) ∈ lw_tbl := sx_in2 (List.mem_of_getElem? (i := 149) rfl)
abbrev st_y7 : MethodName := ⟨"java/lang/String", "charAt", "(I)C"⟩
theorem st_y7_w : Cond.code st_y7 prog_15_method_56_code 2 (some .char) ∈ lw_tbl := sx_in2 (List.mem_of_getElem? (i := 142) rfl)
theorem st_w479 : Cond.fieldLink "java/lang/String" 38 "java/lang/String" "COMPACT_STRINGS" "Z" ∈ lw_tbl := sx_at_mem (p := 479) (by decide +kernel)
theorem st_w1758 : Cond.fieldLink "java/lang/String" 9 "java/lang/String" "value" "[B" ∈ lw_tbl := sx_at_mem (p := 1758) (by decide +kernel)
theorem st_w1759 : Cond.fieldLink "java/lang/String" 15 "java/lang/String" "coder" "B" ∈ lw_tbl := sx_at_mem (p := 1759) (by decide +kernel)
theorem st_w495 : Cond.fieldLink "java/lang/String" 1053 "jdk/internal/util/Preconditions" "SIOOBE_FORMATTER" "Ljava/util/function/BiFunction;" ∈ lw_tbl := sx_at_mem (p := 495) (by decide +kernel)
theorem st_w475 : Cond.methodLink "java/lang/String" 335 st_y1 ∈ lw_tbl := sx_at_mem (p := 475) (by decide +kernel)
theorem st_w476 : Cond.instanceMethod st_y1 ∈ lw_tbl := sx_at_mem (p := 476) (by decide +kernel)
theorem st_w477 : Cond.selects "java/lang/String" st_y1 st_y1 ∈ lw_tbl := sx_at_mem (p := 477) (by decide +kernel)
theorem st_w485 : Cond.methodLink "java/lang/String" 492 st_y2 ∈ lw_tbl := sx_at_mem (p := 485) (by decide +kernel)
theorem st_w486 : Cond.instanceMethod st_y2 ∈ lw_tbl := sx_at_mem (p := 486) (by decide +kernel)
theorem st_w487 : Cond.selects "java/lang/String" st_y2 st_y2 ∈ lw_tbl := sx_at_mem (p := 487) (by decide +kernel)
theorem st_w472 : Cond.instanceMethod st_y3 ∈ lw_tbl := sx_at_mem (p := 472) (by decide +kernel)
theorem st_w473 : Cond.selects "java/lang/String" st_y3 st_y3 ∈ lw_tbl := sx_at_mem (p := 473) (by decide +kernel)
theorem st_w482 : Cond.instanceMethod st_y7 ∈ lw_tbl := sx_at_mem (p := 482) (by decide +kernel)
theorem st_w483 : Cond.selects "java/lang/String" st_y7 st_y7 ∈ lw_tbl := sx_at_mem (p := 483) (by decide +kernel)
theorem st_w497 : Cond.methodLink "java/lang/String" 1059 st_y4 ∈ lw_tbl := sx_at_mem (p := 497) (by decide +kernel)
theorem st_w498 : Cond.static st_y4 ∈ lw_tbl := sx_at_mem (p := 498) (by decide +kernel)
theorem st_w492 : Cond.methodLink "java/lang/StringLatin1" 9 st_y5 ∈ lw_tbl := sx_at_mem (p := 492) (by decide +kernel)
theorem st_w493 : Cond.static st_y5 ∈ lw_tbl := sx_at_mem (p := 493) (by decide +kernel)
theorem st_w489 : Cond.methodLink "java/lang/String" 495 st_y6 ∈ lw_tbl := sx_at_mem (p := 489) (by decide +kernel)
theorem st_w490 : Cond.static st_y6 ∈ lw_tbl := sx_at_mem (p := 490) (by decide +kernel)
theorem st_w114 : Cond.initialized "java/lang/String" ∈ lw_tbl := sx_at_mem (p := 114) (by decide +kernel)
theorem st_w115 : Cond.initialized "java/lang/StringLatin1" ∈ lw_tbl := sx_at_mem (p := 115) (by decide +kernel)
theorem st_w116 : Cond.initialized "jdk/internal/util/Preconditions" ∈ lw_tbl := sx_at_mem (p := 116) (by decide +kernel)
theorem st_d1_0 : decode prog_15_method_152_code 0 = .ok (.getstatic 38, 3) := by decide +kernel
theorem st_d1_3 : decode prog_15_method_152_code 3 = .ok (.ifCond .eq 10, 3) := by decide +kernel
theorem st_d1_6 : decode prog_15_method_152_code 6 = .ok (.aload_n 0, 1) := by decide +kernel
theorem st_d1_7 : decode prog_15_method_152_code 7 = .ok (.getfield 15, 3) := by decide +kernel
theorem st_d1_10 : decode prog_15_method_152_code 10 = .ok (.goto 4, 3) := by decide +kernel
theorem st_d1_14 : decode prog_15_method_152_code 14 = .ok (.ireturn, 1) := by decide +kernel
theorem st_d2_0 : decode prog_15_method_154_code 0 = .ok (.getstatic 38, 3) := by decide +kernel
theorem st_d2_3 : decode prog_15_method_154_code 3 = .ok (.ifCond .eq 14, 3) := by decide +kernel
theorem st_d2_6 : decode prog_15_method_154_code 6 = .ok (.aload_n 0, 1) := by decide +kernel
theorem st_d2_7 : decode prog_15_method_154_code 7 = .ok (.getfield 15, 3) := by decide +kernel
theorem st_d2_10 : decode prog_15_method_154_code 10 = .ok (.ifCond .ne 7, 3) := by decide +kernel
theorem st_d2_13 : decode prog_15_method_154_code 13 = .ok (.iconst 1, 1) := by decide +kernel
theorem st_d2_14 : decode prog_15_method_154_code 14 = .ok (.goto 4, 3) := by decide +kernel
theorem st_d2_18 : decode prog_15_method_154_code 18 = .ok (.ireturn, 1) := by decide +kernel
theorem st_d3_0 : decode prog_15_method_54_code 0 = .ok (.aload_n 0, 1) := by decide +kernel
theorem st_d3_1 : decode prog_15_method_54_code 1 = .ok (.getfield 9, 3) := by decide +kernel
theorem st_d3_4 : decode prog_15_method_54_code 4 = .ok (.arraylength, 1) := by decide +kernel
theorem st_d3_5 : decode prog_15_method_54_code 5 = .ok (.aload_n 0, 1) := by decide +kernel
theorem st_d3_6 : decode prog_15_method_54_code 6 = .ok (.invokevirtual 335, 3) := by decide +kernel
theorem st_d3_9 : decode prog_15_method_54_code 9 = .ok (.ishr, 1) := by decide +kernel
theorem st_d3_10 : decode prog_15_method_54_code 10 = .ok (.ireturn, 1) := by decide +kernel
theorem st_d4_0 : decode prog_20_method_11_code 0 = .ok (.iload_n 0, 1) := by decide +kernel
theorem st_d4_1 : decode prog_20_method_11_code 1 = .ok (.ifCond .lt 8, 3) := by decide +kernel
theorem st_d4_4 : decode prog_20_method_11_code 4 = .ok (.iload_n 0, 1) := by decide +kernel
theorem st_d4_5 : decode prog_20_method_11_code 5 = .ok (.iload_n 1, 1) := by decide +kernel
theorem st_d4_6 : decode prog_20_method_11_code 6 = .ok (.if_icmp .lt 10, 3) := by decide +kernel
theorem st_d4_16 : decode prog_20_method_11_code 16 = .ok (.iload_n 0, 1) := by decide +kernel
theorem st_d4_17 : decode prog_20_method_11_code 17 = .ok (.ireturn, 1) := by decide +kernel
theorem st_d5_0 : decode prog_15_method_155_code 0 = .ok (.iload_n 0, 1) := by decide +kernel
theorem st_d5_1 : decode prog_15_method_155_code 1 = .ok (.iload_n 1, 1) := by decide +kernel
theorem st_d5_2 : decode prog_15_method_155_code 2 = .ok (.getstatic 1053, 3) := by decide +kernel
theorem st_d5_5 : decode prog_15_method_155_code 5 = .ok (.invokestatic 1059, 3) := by decide +kernel
theorem st_d5_8 : decode prog_15_method_155_code 8 = .ok (.pop, 1) := by decide +kernel
theorem st_d5_9 : decode prog_15_method_155_code 9 = .ok (.return_, 1) := by decide +kernel
theorem st_d6_0 : decode prog_16_method_2_code 0 = .ok (.iload_n 1, 1) := by decide +kernel
theorem st_d6_1 : decode prog_16_method_2_code 1 = .ok (.aload_n 0, 1) := by decide +kernel
theorem st_d6_2 : decode prog_16_method_2_code 2 = .ok (.arraylength, 1) := by decide +kernel
theorem st_d6_3 : decode prog_16_method_2_code 3 = .ok (.invokestatic 9, 3) := by decide +kernel
theorem st_d6_6 : decode prog_16_method_2_code 6 = .ok (.aload_n 0, 1) := by decide +kernel
theorem st_d6_7 : decode prog_16_method_2_code 7 = .ok (.iload_n 1, 1) := by decide +kernel
theorem st_d6_8 : decode prog_16_method_2_code 8 = .ok (.baload, 1) := by decide +kernel
theorem st_d6_9 : decode prog_16_method_2_code 9 = .ok (.sipush 255, 3) := by decide +kernel
theorem st_d6_12 : decode prog_16_method_2_code 12 = .ok (.iand, 1) := by decide +kernel
theorem st_d6_13 : decode prog_16_method_2_code 13 = .ok (.i2c, 1) := by decide +kernel
theorem st_d6_14 : decode prog_16_method_2_code 14 = .ok (.ireturn, 1) := by decide +kernel
theorem st_d7_0 : decode prog_15_method_56_code 0 = .ok (.aload_n 0, 1) := by decide +kernel
theorem st_d7_1 : decode prog_15_method_56_code 1 = .ok (.invokevirtual 492, 3) := by decide +kernel
theorem st_d7_4 : decode prog_15_method_56_code 4 = .ok (.ifCond .eq 12, 3) := by decide +kernel
theorem st_d7_7 : decode prog_15_method_56_code 7 = .ok (.aload_n 0, 1) := by decide +kernel
theorem st_d7_8 : decode prog_15_method_56_code 8 = .ok (.getfield 9, 3) := by decide +kernel
theorem st_d7_11 : decode prog_15_method_56_code 11 = .ok (.iload_n 1, 1) := by decide +kernel
theorem st_d7_12 : decode prog_15_method_56_code 12 = .ok (.invokestatic 495, 3) := by decide +kernel
theorem st_d7_15 : decode prog_15_method_56_code 15 = .ok (.ireturn, 1) := by decide +kernel
/-- a text as the machine has it -/
def stB (A : Nat → Prop) (q b N : Nat) (f : Nat → Int32) (U : State) : Prop := va_O "java/lang/String" q A U U.heap ∧ va_OF "java/lang/String" "coder" "B" (.int 0) q A U U.heap ∧ va_OF "java/lang/String" "value" "[B" (.ref b) q A U U.heap ∧ va_T .byte b N (fun j => .int (f j)) A U U.heap ∧ sx_Zs A U U.heap
theorem stB.mv {A : Nat → Prop} {q b N : Nat} {f : Nat → Int32} {s U : State} {H : Heap} {locs : List Loc} (h : stB A q b N f s) (hS : va_S A s.heap H locs) (hU : U.heap = H) (hW : s.WarmedH U.vm) : stB A q b N f U := by
  obtain ⟨h1, h2, h3, h4, h5, h6⟩ := h
  have kq : ∀ a : Nat, a < s.heap.size → ¬ A a → H[a]? = s.heap[a]? := fun a g1 g2 => hS.2.1 a g1 g2
  unfold stB
  rw [hU]
  exact ⟨(va_O.moved hW.alike h1).kept kq, (va_OF.moved hW.alike h2).kept kq, (va_OF.moved hW.alike h3).kept kq, (va_T.moved hW.alike h4).kept kq, (va_Z.moved hW.alike h5).kept kq, (va_Zq.moved hW.alike h6).kept kq⟩
theorem stB.bl {A : Nat → Prop} {q b N : Nat} {f : Nat → Int32} {X : Array Value} : FrameBlind (fun a U => a = X ∧ stB A q b N f U) := by
  intro a U g mk h
  obtain ⟨h0, h1, h2, h3, h4, h5, h6⟩ := h
  exact ⟨h0, va_O.moved (u := U) (U := U.calling g mk a) (Vm.Alike.refl U.vm) h1, va_OF.moved (u := U) (U := U.calling g mk a) (Vm.Alike.refl U.vm) h2, va_OF.moved (u := U) (U := U.calling g mk a) (Vm.Alike.refl U.vm) h3, va_T.moved (u := U) (U := U.calling g mk a) (Vm.Alike.refl U.vm) h4, va_Z.moved (u := U) (U := U.calling g mk a) (Vm.Alike.refl U.vm) h5, va_Zq.moved (u := U) (U := U.calling g mk a) (Vm.Alike.refl U.vm) h6⟩
def stQ (v : Option Value) : Array Value → State → Outcome → State → Prop := fun _ st oc t => oc = .returned v ∧ t.heap = st.heap
theorem st_gd {y : MethodName} {b : ByteArray} {n : Nat} {r : Option FieldType} (h : Cond.code y b n r ∈ lw_tbl) : GoodIn sx_gw (Cond.code y b n r :: sx_gw) := by
  intro w hw
  rcases List.mem_cons.mp hw with rfl | hw
  · exact ⟨List.mem_filter.mpr ⟨h, rfl⟩, good_of_word rfl⟩
  · exact ⟨hw, good_of_word (List.mem_filter.mp hw).2⟩
theorem st_in {w : Cond} (h : w ∈ lw_tbl) (hg : goodWord w = true) : w ∈ sx_gw ∧ ((w.onTables && w.keeps) = true ∨ ∃ ty, w = .arrayClass ty) := ⟨List.mem_filter.mpr ⟨h, hg⟩, good_of_word hg⟩
theorem st_gV {own C : String} {idx : Nat} {y : MethodName} {b : ByteArray} {n : Nat} {r : Option FieldType} (h : Cond.code y b n r ∈ lw_tbl) (h1 : Cond.methodLink own idx y ∈ lw_tbl) (h2 : Cond.instanceMethod y ∈ lw_tbl) (h3 : Cond.selects C y y ∈ lw_tbl) (h4 : Cond.initialized C ∈ lw_tbl) : GoodIn sx_gw (wsV own idx C y (Cond.code y b n r :: sx_gw)) := by
  intro w hw
  unfold wsV at hw
  rcases List.mem_append.mp hw with hw | hw
  · simp only [List.mem_cons, List.not_mem_nil, or_false] at hw
    rcases hw with rfl | rfl | rfl | rfl
    · exact st_in h1 rfl
    · exact st_in h2 rfl
    · exact st_in h3 rfl
    · exact st_in h4 rfl
  · exact st_gd h w hw
theorem st_gS {own : String} {idx : Nat} {y : MethodName} {b : ByteArray} {n : Nat} {r : Option FieldType} (h : Cond.code y b n r ∈ lw_tbl) (h1 : Cond.methodLink own idx y ∈ lw_tbl) (h2 : Cond.static y ∈ lw_tbl) (h4 : Cond.initialized y.cls ∈ lw_tbl) : GoodIn sx_gw (va_wsS own idx y (Cond.code y b n r :: sx_gw)) := by
  intro w hw
  unfold va_wsS at hw
  rcases List.mem_append.mp hw with hw | hw
  · simp only [List.mem_cons, List.not_mem_nil, or_false] at hw
    rcases hw with rfl | rfl | rfl
    · exact st_in h1 rfl
    · exact st_in h2 rfl
    · exact st_in h4 rfl
  · exact st_gd h w hw
section STR
variable {p : Program} {l : Launch} {e : Env} {R : Room} {s : State} {m : MethodId} {args : Array Value} {below : List Frame} {meth : Method} {c : Code} {H : Heap} {locs : List Loc} {cells slots : Nat} {Q : State → Prop} {pc : Nat} {ls : Array Slot} {st0 rest : List Value} {a : Array Value} {v : Option Value}
theorem st_run (hr : va_Run p l e R s m args below meth c H locs cells slots 0 0 (F0 m pc ls st0) rest (stQ v a) (fun _ => False)) (k : W p l e R s m args below meth c H locs cells slots Q (F0 m (pc + 3) ls (v.toList ++ rest))) : W p l e R s m args below meth c H locs cells slots Q (F0 m pc ls st0) := by
  intro T hT X
  obtain ⟨v', st₀, t, T1, L1, h0, X', hL, e3, e4, ⟨hv, hh⟩, stp⟩ := hr T hT X
  cases hv
  have hl : L1 = [] := by
    cases L1 with
    | nil => rfl
    | cons q L => exact (hL q List.mem_cons_self).elim
  subst hl
  rw [List.append_nil] at X'
  obtain ⟨t2, a1, b1⟩ := k T1 (by rw [e3, hh, h0]) X'
  exact ⟨t2, stp t2 a1, b1⟩
end STR

theorem st_coder (l : Launch) {A : Nat → Prop} {q b N : Nat} {f : Nat → Int32} : Met l st_y1 (Cond.code st_y1 prog_15_method_152_code 1 (some .byte) :: sx_gw) { frames := 0, cells := 0, slots := 0, locals := 0 } (fun a U => a = ([.ref q] : List Value).toArray ∧ stB A q b N f U) (stQ (some (.int 0))) 0 0 (fun _ => False) := by
  refine Met.ofW (cc := prog_15_method_152_code) (maxL := 1) (ret := (some .byte)) (by decide) rfl ?_
  intro p e s m args below meth c s₁ B hml hv
  obtain ⟨rfl, hB⟩ := hv
  have hx := B.exec
  have hb := B.bytes
  have hr := B.returns
  have hts0 := atoms_spec (ws := Cond.code st_y1 prog_15_method_152_code 1 (some .byte) :: sx_gw) B.pre
  have hts : ∀ w ∈ sx_gw, w.before ([.ref q] : List Value).toArray s = true := fun w hw => hts0 w (List.mem_cons_of_mem _ hw)
  have hown : s.vm.findClass "java/lang/String" = some m.cls := findClass_of_methodNamed B.named
  have hlocks := B.notSynchronized
  have hS : va_S A s.heap s.heap [] := va_S.rf
  have hfix : CallFix p m c prog_15_method_152_code 1 s ([.ref q] : List Value).toArray sx_gw "java/lang/String" := ⟨hx, hb, hml, hown, hts⟩
  have hl := lv_entry ([.ref q]) (n := 1) (Nat.le_of_ble_eq_true rfl)
  rw [lg_entry_eq]
  generalize (lg_sl ([.ref q]) ++ List.replicate (1 - (lg_sl ([.ref q])).length) Slot.unset).toArray = ls at hl ⊢
  have hl : lv_has ls 1 [(0, .ref q)] := hl
  refine va_gets hx hb hB.2.2.2.2.1 hS hown (sx_tb hts st_w479 rfl) (fun _ h => h) st_d1_0 ?_
  refine lv_if_eq hx hb st_d1_3 (tgt := 13) rfl (fun z => absurd z (by decide)) (fun _ => ?_)
  refine lv_aload_n hx hb st_d1_6 rfl (lv_at hl 0 rfl) ?_
  refine vk_getf hx hb hB.2.1 hS hown (sx_tb hts st_w1759 rfl) (fun _ h => h) st_d1_7 ?_
  refine lv_goto hx hb st_d1_10 (tgt := 14) rfl ?_
  exact W.zret (ty := .byte) hx hb hr rfl (fun t ht _ => ⟨rfl, ht⟩) (fun _ h => by cases h) st_d1_14
theorem st_lat (l : Launch) {A : Nat → Prop} {q b N : Nat} {f : Nat → Int32} : Met l st_y2 (Cond.code st_y2 prog_15_method_154_code 1 (some .boolean) :: sx_gw) { frames := 0, cells := 0, slots := 0, locals := 0 } (fun a U => a = ([.ref q] : List Value).toArray ∧ stB A q b N f U) (stQ (some (.int 1))) 0 0 (fun _ => False) := by
  refine Met.ofW (cc := prog_15_method_154_code) (maxL := 1) (ret := (some .boolean)) (by decide) rfl ?_
  intro p e s m args below meth c s₁ B hml hv
  obtain ⟨rfl, hB⟩ := hv
  have hx := B.exec
  have hb := B.bytes
  have hr := B.returns
  have hts0 := atoms_spec (ws := Cond.code st_y2 prog_15_method_154_code 1 (some .boolean) :: sx_gw) B.pre
  have hts : ∀ w ∈ sx_gw, w.before ([.ref q] : List Value).toArray s = true := fun w hw => hts0 w (List.mem_cons_of_mem _ hw)
  have hown : s.vm.findClass "java/lang/String" = some m.cls := findClass_of_methodNamed B.named
  have hlocks := B.notSynchronized
  have hS : va_S A s.heap s.heap [] := va_S.rf
  have hfix : CallFix p m c prog_15_method_154_code 1 s ([.ref q] : List Value).toArray sx_gw "java/lang/String" := ⟨hx, hb, hml, hown, hts⟩
  have hl := lv_entry ([.ref q]) (n := 1) (Nat.le_of_ble_eq_true rfl)
  rw [lg_entry_eq]
  generalize (lg_sl ([.ref q]) ++ List.replicate (1 - (lg_sl ([.ref q])).length) Slot.unset).toArray = ls at hl ⊢
  have hl : lv_has ls 1 [(0, .ref q)] := hl
  refine va_gets hx hb hB.2.2.2.2.1 hS hown (sx_tb hts st_w479 rfl) (fun _ h => h) st_d2_0 ?_
  refine lv_if_eq hx hb st_d2_3 (tgt := 17) rfl (fun z => absurd z (by decide)) (fun _ => ?_)
  refine lv_aload_n hx hb st_d2_6 rfl (lv_at hl 0 rfl) ?_
  refine vk_getf hx hb hB.2.1 hS hown (sx_tb hts st_w1759 rfl) (fun _ h => h) st_d2_7 ?_
  refine lv_if_ne hx hb st_d2_10 (tgt := 17) rfl (fun z => absurd rfl z) (fun _ => ?_)
  refine lv_iconst hx hb st_d2_13 rfl ?_
  refine lv_goto hx hb st_d2_14 (tgt := 18) rfl ?_
  exact W.zret (ty := .boolean) hx hb hr rfl (fun t ht _ => ⟨rfl, ht⟩) (fun _ h => by cases h) st_d2_18
theorem stB.rc {A : Nat → Prop} {q b N : Nat} {f : Nat → Int32} {s : State} {H : Heap} {locs : List Loc} (h : stB A q b N f s) (hS : va_S A s.heap H locs) : ∃ cell : Cell, H[q]? = some cell ∧ cell.vm.isStatics = false ∧ s.vm.findClass "java/lang/String" = some cell.cls := by
  obtain ⟨cell, h1, h2, h3, -⟩ := h.1.kept hS.2.1
  exact ⟨cell, h1, h2, h3⟩
theorem st_len (l : Launch) {A : Nat → Prop} {q b N : Nat} {f : Nat → Int32} : Met l st_y3 (Cond.code st_y3 prog_15_method_54_code 1 (some .int) :: sx_gw) { frames := 1, cells := 0, slots := 0, locals := 20 } (fun a U => a = ([.ref q] : List Value).toArray ∧ stB A q b N f U) (stQ (some (.int (Int32.ofNat N)))) 0 0 (fun _ => False) := by
  refine Met.ofW (cc := prog_15_method_54_code) (maxL := 1) (ret := (some .int)) (by decide) rfl ?_
  intro p e s m args below meth c s₁ B hml hv
  obtain ⟨rfl, hB⟩ := hv
  have hx := B.exec
  have hb := B.bytes
  have hr := B.returns
  have hts0 := atoms_spec (ws := Cond.code st_y3 prog_15_method_54_code 1 (some .int) :: sx_gw) B.pre
  have hts : ∀ w ∈ sx_gw, w.before ([.ref q] : List Value).toArray s = true := fun w hw => hts0 w (List.mem_cons_of_mem _ hw)
  have hown : s.vm.findClass "java/lang/String" = some m.cls := findClass_of_methodNamed B.named
  have hlocks := B.notSynchronized
  have hS : va_S A s.heap s.heap [] := va_S.rf
  have hfix : CallFix p m c prog_15_method_54_code 1 s ([.ref q] : List Value).toArray sx_gw "java/lang/String" := ⟨hx, hb, hml, hown, hts⟩
  have hl := lv_entry ([.ref q]) (n := 1) (Nat.le_of_ble_eq_true rfl)
  rw [lg_entry_eq]
  generalize (lg_sl ([.ref q]) ++ List.replicate (1 - (lg_sl ([.ref q])).length) Slot.unset).toArray = ls at hl ⊢
  have hl : lv_has ls 1 [(0, .ref q)] := hl
  refine lv_aload_n hx hb st_d3_0 rfl (lv_at hl 0 rfl) ?_
  refine vk_getf hx hb hB.2.2.1 hS hown (sx_tb hts st_w1758 rfl) (fun _ h => h) st_d3_1 ?_
  refine va_tlen hx hb hB.2.2.2.1 hS rfl st_d3_4 ?_
  refine lv_aload_n hx hb st_d3_5 rfl (lv_at hl 0 rfl) ?_
  refine st_run (va_runV (As := []) (b := q) (C := "java/lang/String") (n := 0) (bytes := prog_15_method_152_code) (maxL := 1) (ret := some .byte) (rest := [.int (Int32.ofNat N)]) hfix (st_coder l (A := A) (q := q) (b := b) (N := N) (f := f)) (cwV 0 hts (st_gV st_y1_w st_w475 st_w476 st_w477 st_w114) rfl rfl rfl ⟨rfl, by decide, by decide, by decide⟩ ⟨Nat.le_of_ble_eq_true rfl, Nat.le_of_ble_eq_true rfl⟩) ⟨stB.bl, hB.rc hS, fun U hU hW => ⟨rfl, hB.mv hS hU hW⟩⟩ rfl rfl hl.1 rfl (lv_room (Nat.le_of_ble_eq_true rfl)) st_d3_6 ⟨Nat.zero_le _, Nat.zero_le _⟩) ?_
  refine lv_ishr hx hb st_d3_9 ?_
  rw [show (0 &&& 31 : Int32) = 0 from rfl, Int32.shiftRight_zero]
  exact W.iret hx hb hr (fun t ht _ => ⟨rfl, ht⟩) (fun _ h => by cases h) st_d3_10
theorem st_chk (l : Launch) {i n : Int32} (t : Option Nat) (h0 : ¬ i < 0) (h1 : i < n) : Met l st_y4 (Cond.code st_y4 prog_20_method_11_code 3 (some .int) :: sx_gw) { frames := 0, cells := 0, slots := 0, locals := 0 } (fun a U => a = ([.int i, .int n, va_rf t] : List Value).toArray ∧ True) (stQ (some (.int i))) 0 0 (fun _ => False) := by
  cases t with
  | none =>
    refine Met.ofW (cc := prog_20_method_11_code) (maxL := 3) (ret := (some .int)) (by decide) rfl ?_
    intro p e s m args below meth c s₁ B hml hv
    obtain ⟨rfl, -⟩ := hv
    have hx := B.exec
    have hb := B.bytes
    have hr := B.returns
    have hts0 := atoms_spec (ws := Cond.code st_y4 prog_20_method_11_code 3 (some .int) :: sx_gw) B.pre
    have hts : ∀ w ∈ sx_gw, w.before ([.int i, .int n, va_rf none] : List Value).toArray s = true := fun w hw => hts0 w (List.mem_cons_of_mem _ hw)
    have hown : s.vm.findClass "jdk/internal/util/Preconditions" = some m.cls := findClass_of_methodNamed B.named
    have hlocks := B.notSynchronized
    have hS : va_S (fun _ => False) s.heap s.heap [] := va_S.rf
    have hfix : CallFix p m c prog_20_method_11_code 3 s ([.int i, .int n, va_rf none] : List Value).toArray sx_gw "jdk/internal/util/Preconditions" := ⟨hx, hb, hml, hown, hts⟩
    have hl := lv_entry ([.int i, .int n, va_rf none]) (n := 3) (Nat.le_of_ble_eq_true rfl)
    rw [lg_entry_eq]
    generalize (lg_sl ([.int i, .int n, va_rf none]) ++ List.replicate (3 - (lg_sl ([.int i, .int n, va_rf none])).length) Slot.unset).toArray = ls at hl ⊢
    have hl : lv_has ls 3 [(0, .int i), (1, .int n), (2, va_rf none)] := hl
    refine lv_iload_n hx hb st_d4_0 rfl (lv_at hl 0 rfl) ?_
    refine lv_if_lt hx hb st_d4_1 (tgt := 9) rfl (fun z => absurd z h0) (fun _ => ?_)
    refine lv_iload_n hx hb st_d4_4 rfl (lv_at hl 0 rfl) ?_
    refine lv_iload_n hx hb st_d4_5 rfl (lv_at hl 1 rfl) ?_
    refine lv_icmp_lt hx hb st_d4_6 (tgt := 16) rfl (fun _ => ?_) (fun z => absurd h1 z)
    refine lv_iload_n hx hb st_d4_16 rfl (lv_at hl 0 rfl) ?_
    exact W.iret hx hb hr (fun t ht _ => ⟨rfl, ht⟩) (fun _ h => by cases h) st_d4_17
  | some t =>
    refine Met.ofW (cc := prog_20_method_11_code) (maxL := 3) (ret := (some .int)) (by decide) rfl ?_
    intro p e s m args below meth c s₁ B hml hv
    obtain ⟨rfl, -⟩ := hv
    have hx := B.exec
    have hb := B.bytes
    have hr := B.returns
    have hts0 := atoms_spec (ws := Cond.code st_y4 prog_20_method_11_code 3 (some .int) :: sx_gw) B.pre
    have hts : ∀ w ∈ sx_gw, w.before ([.int i, .int n, va_rf (some t)] : List Value).toArray s = true := fun w hw => hts0 w (List.mem_cons_of_mem _ hw)
    have hown : s.vm.findClass "jdk/internal/util/Preconditions" = some m.cls := findClass_of_methodNamed B.named
    have hlocks := B.notSynchronized
    have hS : va_S (fun _ => False) s.heap s.heap [] := va_S.rf
    have hfix : CallFix p m c prog_20_method_11_code 3 s ([.int i, .int n, va_rf (some t)] : List Value).toArray sx_gw "jdk/internal/util/Preconditions" := ⟨hx, hb, hml, hown, hts⟩
    have hl := lv_entry ([.int i, .int n, va_rf (some t)]) (n := 3) (Nat.le_of_ble_eq_true rfl)
    rw [lg_entry_eq]
    generalize (lg_sl ([.int i, .int n, va_rf (some t)]) ++ List.replicate (3 - (lg_sl ([.int i, .int n, va_rf (some t)])).length) Slot.unset).toArray = ls at hl ⊢
    have hl : lv_has ls 3 [(0, .int i), (1, .int n), (2, va_rf (some t))] := hl
    refine lv_iload_n hx hb st_d4_0 rfl (lv_at hl 0 rfl) ?_
    refine lv_if_lt hx hb st_d4_1 (tgt := 9) rfl (fun z => absurd z h0) (fun _ => ?_)
    refine lv_iload_n hx hb st_d4_4 rfl (lv_at hl 0 rfl) ?_
    refine lv_iload_n hx hb st_d4_5 rfl (lv_at hl 1 rfl) ?_
    refine lv_icmp_lt hx hb st_d4_6 (tgt := 16) rfl (fun _ => ?_) (fun z => absurd h1 z)
    refine lv_iload_n hx hb st_d4_16 rfl (lv_at hl 0 rfl) ?_
    exact W.iret hx hb hr (fun t ht _ => ⟨rfl, ht⟩) (fun _ h => by cases h) st_d4_17
theorem st_chi (l : Launch) {i n : Int32} {A : Nat → Prop} {q b N : Nat} {f : Nat → Int32} (h0 : ¬ i < 0) (h1 : i < n) : Met l st_y5 (Cond.code st_y5 prog_15_method_155_code 2 none :: sx_gw) { frames := 1, cells := 0, slots := 0, locals := 22 } (fun a U => a = ([.int i, .int n] : List Value).toArray ∧ stB A q b N f U) (stQ (none)) 0 0 (fun _ => False) := by
  refine Met.ofW (cc := prog_15_method_155_code) (maxL := 2) (ret := none) (by decide) rfl ?_
  intro p e s m args below meth c s₁ B hml hv
  obtain ⟨rfl, hB⟩ := hv
  have hx := B.exec
  have hb := B.bytes
  have hr := B.returns
  have hts0 := atoms_spec (ws := Cond.code st_y5 prog_15_method_155_code 2 none :: sx_gw) B.pre
  have hts : ∀ w ∈ sx_gw, w.before ([.int i, .int n] : List Value).toArray s = true := fun w hw => hts0 w (List.mem_cons_of_mem _ hw)
  have hown : s.vm.findClass "java/lang/String" = some m.cls := findClass_of_methodNamed B.named
  have hlocks := B.notSynchronized
  have hS : va_S A s.heap s.heap [] := va_S.rf
  have hfix : CallFix p m c prog_15_method_155_code 2 s ([.int i, .int n] : List Value).toArray sx_gw "java/lang/String" := ⟨hx, hb, hml, hown, hts⟩
  have hl := lv_entry ([.int i, .int n]) (n := 2) (Nat.le_of_ble_eq_true rfl)
  rw [lg_entry_eq]
  generalize (lg_sl ([.int i, .int n]) ++ List.replicate (2 - (lg_sl ([.int i, .int n])).length) Slot.unset).toArray = ls at hl ⊢
  have hl : lv_has ls 2 [(0, .int i), (1, .int n)] := hl
  refine lv_iload_n hx hb st_d5_0 rfl (lv_at hl 0 rfl) ?_
  refine lv_iload_n hx hb st_d5_1 rfl (lv_at hl 1 rfl) ?_
  rcases hB.2.2.2.2.2 with hz | ⟨t, hz⟩
  · refine va_gets hx hb hz hS hown (sx_tb hts st_w495 rfl) (fun _ h => h) st_d5_2 ?_
    refine st_run (va_runS (As := [.int i, .int n, va_rf none]) (n := 3) (bytes := prog_20_method_11_code) (maxL := 3) (ret := some .int) (rest := []) hfix (st_chk l none h0 h1) (va_cwS 3 hts (st_gS st_y4_w st_w497 st_w498 st_w116) rfl rfl rfl ⟨by decide, by decide, by decide⟩ ⟨Nat.le_of_ble_eq_true rfl, Nat.le_of_ble_eq_true rfl⟩) ⟨fun a U g mk h => h, fun U hU hW => ⟨rfl, trivial⟩⟩ rfl rfl hl.1 rfl (lv_room (Nat.le_of_ble_eq_true rfl)) st_d5_5 ⟨Nat.zero_le _, Nat.zero_le _⟩) ?_
    refine lv_pop hx hb st_d5_8 rfl ?_
    exact W.vret hx hb hr (fun t ht _ => ⟨rfl, ht⟩) (fun _ h => by cases h) st_d5_9
  · refine va_gets hx hb hz hS hown (sx_tb hts st_w495 rfl) (fun _ h => h) st_d5_2 ?_
    refine st_run (va_runS (As := [.int i, .int n, va_rf (some t)]) (n := 3) (bytes := prog_20_method_11_code) (maxL := 3) (ret := some .int) (rest := []) hfix (st_chk l (some t) h0 h1) (va_cwS 3 hts (st_gS st_y4_w st_w497 st_w498 st_w116) rfl rfl rfl ⟨by decide, by decide, by decide⟩ ⟨Nat.le_of_ble_eq_true rfl, Nat.le_of_ble_eq_true rfl⟩) ⟨fun a U g mk h => h, fun U hU hW => ⟨rfl, trivial⟩⟩ rfl rfl hl.1 rfl (lv_room (Nat.le_of_ble_eq_true rfl)) st_d5_5 ⟨Nat.zero_le _, Nat.zero_le _⟩) ?_
    refine lv_pop hx hb st_d5_8 rfl ?_
    exact W.vret hx hb hr (fun t ht _ => ⟨rfl, ht⟩) (fun _ h => by cases h) st_d5_9
theorem st_lch (l : Launch) {i w : Int32} {A : Nat → Prop} {q b N : Nat} {f : Nat → Int32} (h0 : ¬ i < 0) (h1 : i < Int32.ofNat N) (h2 : vp_in i N) (h3 : ((f i.toNatClampNeg &&& 255).toUInt32 % 65536).toInt32 = w) (h4 : narrow .char (.int w) = .int w) : Met l st_y6 (Cond.code st_y6 prog_16_method_2_code 2 (some .char) :: sx_gw) { frames := 2, cells := 0, slots := 0, locals := 43 } (fun a U => a = ([.ref b, .int i] : List Value).toArray ∧ stB A q b N f U) (stQ (some (.int w))) 0 0 (fun _ => False) := by
  refine Met.ofW (cc := prog_16_method_2_code) (maxL := 2) (ret := (some .char)) (by decide) rfl ?_
  intro p e s m args below meth c s₁ B hml hv
  obtain ⟨rfl, hB⟩ := hv
  have hx := B.exec
  have hb := B.bytes
  have hr := B.returns
  have hts0 := atoms_spec (ws := Cond.code st_y6 prog_16_method_2_code 2 (some .char) :: sx_gw) B.pre
  have hts : ∀ w ∈ sx_gw, w.before ([.ref b, .int i] : List Value).toArray s = true := fun w hw => hts0 w (List.mem_cons_of_mem _ hw)
  have hown : s.vm.findClass "java/lang/StringLatin1" = some m.cls := findClass_of_methodNamed B.named
  have hlocks := B.notSynchronized
  have hS : va_S A s.heap s.heap [] := va_S.rf
  have hfix : CallFix p m c prog_16_method_2_code 2 s ([.ref b, .int i] : List Value).toArray sx_gw "java/lang/StringLatin1" := ⟨hx, hb, hml, hown, hts⟩
  have hl := lv_entry ([.ref b, .int i]) (n := 2) (Nat.le_of_ble_eq_true rfl)
  rw [lg_entry_eq]
  generalize (lg_sl ([.ref b, .int i]) ++ List.replicate (2 - (lg_sl ([.ref b, .int i])).length) Slot.unset).toArray = ls at hl ⊢
  have hl : lv_has ls 2 [(0, .ref b), (1, .int i)] := hl
  refine lv_iload_n hx hb st_d6_0 rfl (lv_at hl 1 rfl) ?_
  refine lv_aload_n hx hb st_d6_1 rfl (lv_at hl 0 rfl) ?_
  refine va_tlen hx hb hB.2.2.2.1 hS rfl st_d6_2 ?_
  refine st_run (va_runS (As := [.int i, .int (Int32.ofNat N)]) (n := 2) (bytes := prog_15_method_155_code) (maxL := 2) (ret := none) (rest := []) hfix (st_chi l (A := A) (q := q) (b := b) (N := N) (f := f) h0 h1) (va_cwS 2 hts (st_gS st_y5_w st_w492 st_w493 st_w114) rfl rfl rfl ⟨by decide, by decide, by decide⟩ ⟨Nat.le_of_ble_eq_true rfl, Nat.le_of_ble_eq_true rfl⟩) ⟨stB.bl, fun U hU hW => ⟨rfl, hB.mv hS hU hW⟩⟩ rfl rfl hl.1 rfl (lv_room (Nat.le_of_ble_eq_true rfl)) st_d6_3 ⟨Nat.zero_le _, Nat.zero_le _⟩) ?_
  refine W.eq (g2 := F0 m 6 ls []) rfl ?_
  refine lv_aload_n hx hb st_d6_6 rfl (lv_at hl 0 rfl) ?_
  refine lv_iload_n hx hb st_d6_7 rfl (lv_at hl 1 rfl) ?_
  refine va_tb hx hb hB.2.2.2.1 hS h2 rfl st_d6_8 ?_
  refine lv_sipush hx hb st_d6_9 (v := 255) (by decide) ?_
  refine lv_iand hx hb st_d6_12 ?_
  refine lv_i2c hx hb st_d6_13 h3 ?_
  exact W.zret (ty := .char) hx hb hr h4 (fun t ht _ => ⟨rfl, ht⟩) (fun _ h => by cases h) st_d6_14
theorem st_cha (l : Launch) {i w : Int32} {A : Nat → Prop} {q b N : Nat} {f : Nat → Int32} (h0 : ¬ i < 0) (h1 : i < Int32.ofNat N) (h2 : vp_in i N) (h3 : ((f i.toNatClampNeg &&& 255).toUInt32 % 65536).toInt32 = w) (h4 : narrow .char (.int w) = .int w) : Met l st_y7 (Cond.code st_y7 prog_15_method_56_code 2 (some .char) :: sx_gw) { frames := 3, cells := 0, slots := 0, locals := 64 } (fun a U => a = ([.ref q, .int i] : List Value).toArray ∧ stB A q b N f U) (stQ (some (.int w))) 0 0 (fun _ => False) := by
  refine Met.ofW (cc := prog_15_method_56_code) (maxL := 2) (ret := (some .char)) (by decide) rfl ?_
  intro p e s m args below meth c s₁ B hml hv
  obtain ⟨rfl, hB⟩ := hv
  have hx := B.exec
  have hb := B.bytes
  have hr := B.returns
  have hts0 := atoms_spec (ws := Cond.code st_y7 prog_15_method_56_code 2 (some .char) :: sx_gw) B.pre
  have hts : ∀ w ∈ sx_gw, w.before ([.ref q, .int i] : List Value).toArray s = true := fun w hw => hts0 w (List.mem_cons_of_mem _ hw)
  have hown : s.vm.findClass "java/lang/String" = some m.cls := findClass_of_methodNamed B.named
  have hlocks := B.notSynchronized
  have hS : va_S A s.heap s.heap [] := va_S.rf
  have hfix : CallFix p m c prog_15_method_56_code 2 s ([.ref q, .int i] : List Value).toArray sx_gw "java/lang/String" := ⟨hx, hb, hml, hown, hts⟩
  have hl := lv_entry ([.ref q, .int i]) (n := 2) (Nat.le_of_ble_eq_true rfl)
  rw [lg_entry_eq]
  generalize (lg_sl ([.ref q, .int i]) ++ List.replicate (2 - (lg_sl ([.ref q, .int i])).length) Slot.unset).toArray = ls at hl ⊢
  have hl : lv_has ls 2 [(0, .ref q), (1, .int i)] := hl
  refine lv_aload_n hx hb st_d7_0 rfl (lv_at hl 0 rfl) ?_
  refine st_run (va_runV (As := []) (b := q) (C := "java/lang/String") (n := 0) (bytes := prog_15_method_154_code) (maxL := 1) (ret := some .boolean) (rest := []) hfix (st_lat l (A := A) (q := q) (b := b) (N := N) (f := f)) (cwV 0 hts (st_gV st_y2_w st_w485 st_w486 st_w487 st_w114) rfl rfl rfl ⟨rfl, by decide, by decide, by decide⟩ ⟨Nat.le_of_ble_eq_true rfl, Nat.le_of_ble_eq_true rfl⟩) ⟨stB.bl, hB.rc hS, fun U hU hW => ⟨rfl, hB.mv hS hU hW⟩⟩ rfl rfl hl.1 rfl (lv_room (Nat.le_of_ble_eq_true rfl)) st_d7_1 ⟨Nat.zero_le _, Nat.zero_le _⟩) ?_
  refine lv_if_eq hx hb st_d7_4 (tgt := 16) rfl (fun z => absurd z (by decide)) (fun _ => ?_)
  refine lv_aload_n hx hb st_d7_7 rfl (lv_at hl 0 rfl) ?_
  refine vk_getf hx hb hB.2.2.1 hS hown (sx_tb hts st_w1758 rfl) (fun _ h => h) st_d7_8 ?_
  refine lv_iload_n hx hb st_d7_11 rfl (lv_at hl 1 rfl) ?_
  refine st_run (va_runS (As := [.ref b, .int i]) (n := 2) (bytes := prog_16_method_2_code) (maxL := 2) (ret := some .char) (rest := []) hfix (st_lch l (A := A) (q := q) (b := b) (N := N) (f := f) h0 h1 h2 h3 h4) (va_cwS 2 hts (st_gS st_y6_w st_w489 st_w490 st_w115) rfl rfl rfl ⟨by decide, by decide, by decide⟩ ⟨Nat.le_of_ble_eq_true rfl, Nat.le_of_ble_eq_true rfl⟩) ⟨stB.bl, fun U hU hW => ⟨rfl, hB.mv hS hU hW⟩⟩ rfl rfl hl.1 rfl (lv_room (Nat.le_of_ble_eq_true rfl)) st_d7_12 ⟨Nat.zero_le _, Nat.zero_le _⟩) ?_
  exact W.zret (ty := .char) hx hb hr h4 (fun t ht _ => ⟨rfl, ht⟩) (fun _ h => by cases h) st_d7_15
