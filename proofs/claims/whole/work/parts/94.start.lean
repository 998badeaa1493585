/-! the start: classes, arrays, texts as the Statement gives them -/
theorem sx_w_aP : Cond.arrayOver (.object "ScaleNets$Points") ∈ lw_tbl := sx_at_mem (p := 246) (by decide +kernel)
theorem sx_inst {ci : Nat} {q : vw_C} (h : sx_cls[ci]? = some q) : Cond.instantiable q.1 q.2.2 ∈ lw_tbl := by
  rcases ci with _ | _ | _ | _ | _ | _ | _ | _ | _ | _ | n
  · cases h; exact sx_at_mem (p := 240) (by decide +kernel)
  · cases h; exact sx_at_mem (p := 375) (by decide +kernel)
  · cases h; exact sx_at_mem (p := 189) (by decide +kernel)
  · cases h; exact sx_at_mem (p := 260) (by decide +kernel)
  · cases h; exact sx_at_mem (p := 349) (by decide +kernel)
  · cases h; exact sx_at_mem (p := 149) (by decide +kernel)
  · cases h; exact sx_at_mem (p := 131) (by decide +kernel)
  · cases h; exact sx_at_mem (p := 312) (by decide +kernel)
  · cases h; exact sx_at_mem (p := 123) (by decide +kernel)
  · cases h; exact sx_at_mem (p := 1151) (by decide +kernel)
  · exact absurd h (by simp [sx_cls])
theorem sx_w_sr {j : Nat} (h : j < 7) : Cond.stringRef "ScaleNets$SetText" (sx_sidx.getD j 0) (sx_txt.getD j "") ∈ lw_tbl := by
  rcases (show j = 0 ∨ j = 1 ∨ j = 2 ∨ j = 3 ∨ j = 4 ∨ j = 5 ∨ j = 6 by omega) with rfl | rfl | rfl | rfl | rfl | rfl | rfl
  · exact sx_at_mem (p := 454) (by decide +kernel)
  · exact sx_at_mem (p := 526) (by decide +kernel)
  · exact sx_at_mem (p := 527) (by decide +kernel)
  · exact sx_at_mem (p := 532) (by decide +kernel)
  · exact sx_at_mem (p := 533) (by decide +kernel)
  · exact sx_at_mem (p := 542) (by decide +kernel)
  · exact sx_at_mem (p := 551) (by decide +kernel)
theorem st_w480 : Cond.laysStatic "java/lang/String" "COMPACT_STRINGS" "Z" ∈ lw_tbl := sx_at_mem (p := 480) (by decide +kernel)
theorem st_w496 : Cond.laysStatic "jdk/internal/util/Preconditions" "SIOOBE_FORMATTER" "Ljava/util/function/BiFunction;" ∈ lw_tbl := sx_at_mem (p := 496) (by decide +kernel)
def lw_fl : List Cond := flatC (Jvm.Cond.and given_1 narrow_1)
def lw_tm (i : Nat) : Term := .string "ScaleNets$SetText" (sx_sidx.getD i 0)
abbrev lw_len : List Nat := [3, 2, 3, 4, 4, 5, 2]
abbrev lw_byt : List (List Int32) := sx_strs.map (fun l => l.map Int32.ofInt)
theorem lw_f1 : (List.range 7).all (fun i => decide (Cond.exactly (lw_tm i) "java/lang/String" ∈ lw_fl) && decide (Cond.eq (.field (lw_tm i) "java/lang/String" "coder" "B") (.int 0) ∈ lw_fl) && decide (Cond.arrayOf (.field (lw_tm i) "java/lang/String" "value" "[B") .byte ∈ lw_fl) && decide (Cond.eq (.length (.field (lw_tm i) "java/lang/String" "value" "[B")) (.int (Int32.ofNat (lw_len.getD i 0))) ∈ lw_fl) && (List.range (lw_len.getD i 0)).all (fun j => decide (Cond.eq (.elem (.field (lw_tm i) "java/lang/String" "value" "[B") (.int (Int32.ofNat j))) (.int ((lw_byt.getD i []).getD j 0)) ∈ lw_fl)) && (List.range 7).all (fun j => decide (i = j) || decide (Cond.not (Cond.eq (lw_tm i) (lw_tm j)) ∈ lw_fl) || decide (Cond.not (Cond.eq (lw_tm j) (lw_tm i)) ∈ lw_fl))) = true := by decide +kernel
theorem lw_f2 : Cond.eq (.static "java/lang/String" "COMPACT_STRINGS" "Z") (.int 1) ∈ lw_fl ∧ Cond.isRef (.static "jdk/internal/util/Preconditions" "SIOOBE_FORMATTER" "Ljava/util/function/BiFunction;") ∈ lw_fl := ⟨by decide +kernel, by decide +kernel⟩
theorem lw_texts {b : Nat} {s : State} (h : (Jvm.Cond.and given_1 narrow_1).before #[Value.ref b] s = true) (hts : ∀ w ∈ lw_tbl, w.before #[Value.ref b] s = true) {A : Nat → Prop} (hA : ∀ a : Nat, a < s.heap.size → ¬ A a) : ∃ adK adV : Nat → Nat, vk_S 7 lw_len lw_byt adK adV A s s.heap ∧ sx_Zs A s s.heap ∧ ∀ j : Nat, j < 7 → vk_R "ScaleNets$SetText" (sx_sidx.getD j 0) (sx_txt.getD j "") (adK j) s := by
  have hs := flat_of_before _ h
  have key : ∀ i, i < 7 → (Cond.exactly (lw_tm i) "java/lang/String").before #[Value.ref b] s = true ∧ (Cond.eq (.field (lw_tm i) "java/lang/String" "coder" "B") (.int 0)).before #[Value.ref b] s = true ∧ (Cond.arrayOf (.field (lw_tm i) "java/lang/String" "value" "[B") .byte).before #[Value.ref b] s = true ∧ (Cond.eq (.length (.field (lw_tm i) "java/lang/String" "value" "[B")) (.int (Int32.ofNat (lw_len.getD i 0)))).before #[Value.ref b] s = true ∧ (∀ j, j < lw_len.getD i 0 → (Cond.eq (.elem (.field (lw_tm i) "java/lang/String" "value" "[B") (.int (Int32.ofNat j))) (.int ((lw_byt.getD i []).getD j 0))).before #[Value.ref b] s = true) ∧ ∀ j, j < 7 → i ≠ j → (Cond.not (Cond.eq (lw_tm i) (lw_tm j))).before #[Value.ref b] s = true ∨ (Cond.not (Cond.eq (lw_tm j) (lw_tm i))).before #[Value.ref b] s = true := by
    intro i hi
    have q := List.all_eq_true.mp lw_f1 i (List.mem_range.mpr hi)
    simp only [Bool.and_eq_true, decide_eq_true_eq, Bool.or_eq_true] at q
    obtain ⟨⟨⟨⟨⟨q1, q2⟩, q3⟩, q4⟩, q5⟩, q6⟩ := q
    refine ⟨hs _ q1, hs _ q2, hs _ q3, hs _ q4, fun j hj => ?_, fun j hj hn => ?_⟩
    · have := List.all_eq_true.mp q5 j (List.mem_range.mpr hj)
      rw [decide_eq_true_eq] at this
      exact hs _ this
    · have := List.all_eq_true.mp q6 j (List.mem_range.mpr hj)
      simp only [decide_eq_true_eq, Bool.or_eq_true] at this
      rcases this with (z | z) | z
      · exact absurd z hn
      · exact Or.inl (hs _ z)
      · exact Or.inr (hs _ z)
  have hN : ∀ i : Nat, i < 7 → lw_len.getD i 0 < 2 ^ 31 := by
    intro i hi
    rcases (show i = 0 ∨ i = 1 ∨ i = 2 ∨ i = 3 ∨ i = 4 ∨ i = 5 ∨ i = 6 by omega) with rfl | rfl | rfl | rfl | rfl | rfl | rfl <;> decide
  obtain ⟨adK, adV, hV, hE⟩ := vk_Sof (args := #[Value.ref b]) (s := s) (N := 7) (tm := lw_tm) (len := lw_len) (byt := lw_byt) (A := A) hN (fun i hi => (key i hi).1) (fun i hi => (key i hi).2.1) (fun i hi => (key i hi).2.2.1) (fun i hi => (key i hi).2.2.2.1) (fun i hi j hj => (key i hi).2.2.2.2.1 j hj) (fun i j hi hj hn => (key i hi).2.2.2.2.2 j hj hn) hA
  refine ⟨adK, adV, hV, ⟨va_Zof (hts _ st_w480) (hts _ st_w114) (va_eqt (hs _ lw_f2.1)) hA, va_Zqof (hts _ st_w496) (hts _ st_w116) (hs _ lw_f2.2) hA⟩, fun j hj => vk_R.of (hts _ (sx_w_sr hj)) (hE j hj)⟩
abbrev lw_g (sz : Nat) (D : va_G) (cI cZ cP : ClassId) (L : Nat) (xs : Nat → Int32) : sxG := (sz, D, cI, cZ, cP, L, xs)
theorem lw_wd {b : Nat} {s : State} (h : (Jvm.Cond.and given_1 narrow_1).before #[Value.ref b] s = true) (hts : ∀ w ∈ lw_tbl, w.before #[Value.ref b] s = true) (L : Nat) (xs : Nat → Int32) : ∃ (D : va_G) (cI cZ cP : ClassId) (ad : Nat → Nat), ad 0 = b ∧ sx_Wd (lw_g s.heap.size D cI cZ cP L xs) ad s := by
  have hgw : ∀ w ∈ sx_gw, w.before #[Value.ref b] s = true := fun w hw => hts w (List.mem_filter.mp hw).1
  obtain ⟨D, hD⟩ : ∃ D : va_G, ∀ (k : Nat) (q : vw_C), sx_cls[k]? = some q → u_Kn s q.1 q.2.1 q.2.2 (D.1 k) (D.2 k) := by
    have h0 : ∀ k : Nat, ∃ d : ClassId × (Nat → Nat), ∀ q : vw_C, sx_cls[k]? = some q → u_Kn s q.1 q.2.1 q.2.2 d.1 d.2 := fun k => by
      cases hq : sx_cls[k]? with
      | none => exact ⟨(0, fun _ => 0), fun q h => by cases h⟩
      | some q =>
        obtain ⟨cC, iS, h⟩ := u_known (C := q.1) (T := q.2.1) (N := q.2.2) (n := q.2.2) hgw (sx_cls_ok hq).2.2.2.1 (hts _ (sx_inst hq))
        exact ⟨(cC, iS), fun q' h' => by cases h'; exact h⟩
    obtain ⟨d, hd⟩ := Classical.axiomOfChoice h0
    exact ⟨(fun k => (d k).1, fun k => (d k).2), fun k q h => hd k q h⟩
  obtain ⟨cI, kI, pI, i1, i2, i3⟩ := Cond.arrayClass_spec (hts _ sx_w_aI)
  obtain ⟨cZ, kZ, pZ, z1, z2, z3⟩ := Cond.arrayClass_spec (hts _ sx_w_aZ)
  obtain ⟨pP, cP, kP, o1, o2, o3, o4, o5⟩ := Cond.arrayOver_spec (hts _ sx_w_aP)
  obtain ⟨adK, adV, hV, hZ, hR⟩ := lw_texts h hts (A := sx_A (lw_g s.heap.size D cI cZ cP L xs)) (fun a ha z => Nat.not_le.mpr ha z)
  refine ⟨D, cI, cZ, cP, fun k => if k = 0 then b else adK (k - 1000001), rfl, fun a i y h q => va_Nw.of rfl (hts _ q), va_AO.of (hts _ sx_w_aP), ⟨hD, fun k q hq => ?_⟩, ⟨adV, ?_, hZ⟩, fun j hj => ?_, Nat.le_refl _⟩
  · match k, hq with
    | 0, hq => cases hq; exact ⟨fun n z => ⟨(fun k h => by cases h), kI, i2, pI, i3⟩, i1⟩
    | 1, hq => cases hq; exact ⟨fun n z => ⟨(fun k h => by cases h), kZ, z2, pZ, z3⟩, z1⟩
    | 2, hq => cases hq; exact ⟨fun n z => ⟨(fun k h => by cases h), kP, o3, pP, o4⟩, kP, pP, o3, o4, o1, o5⟩
    | k + 3, hq => simp [sx_tys] at hq
  · have e : (fun j : Nat => (fun k => if k = 0 then b else adK (k - 1000001)) (1000001 + j)) = adK := by
      funext j
      show (if 1000001 + j = 0 then b else adK (1000001 + j - 1000001)) = adK j
      rw [if_neg (by omega), show 1000001 + j - 1000001 = j by omega]
    rw [e]; exact hV
  · show vk_R _ _ _ (if 1000001 + j = 0 then b else adK (1000001 + j - 1000001)) s
    rw [if_neg (by omega), show 1000001 + j - 1000001 = j by omega]
    exact hR j hj
