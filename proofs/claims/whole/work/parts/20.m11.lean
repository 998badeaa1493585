/-! the reference: one goes -/
theorem riseF_spec {p r : Int} (h0 : 0 ≤ p) (h1 : p < 40) (r0 : 0 ≤ r) (r1 : r < 40) (hpr : p ≠ r) : ∀ (m : Nat) (f : Int → Int), wfc f → f r = 1 → 10 ≤ f (160 + r) → 0 ≤ f (160 + p) → f (160 + p) + m = 10 → 1 ≤ m → (∀ j, j ≠ 160 + p → j ≠ 200 + p → riseF m f p j = f j) ∧ f (160 + p) ≤ riseF m f p (160 + p) ∧ riseF m f p (160 + p) ≤ 9 ∧ (0 ≤ riseF m f p (200 + p) ∧ riseF m f p (200 + p) < 40) ∧ f (riseF m f p (200 + p)) = 1 ∧ riseF m f p (200 + p) ≠ p ∧ riseF m f p (160 + p) < f (160 + riseF m f p (200 + p)) := by
  intro m
  induction m with
  | zero => intro f _ _ _ _ _ h; omega
  | succ m ih =>
    intro f hw hr hr' hl hm _
    obtain ⟨w1, w2, w3⟩ := hw p h0 h1
    unfold riseF
    generalize hq : near f (f (160 + p) + 1) (f (40 + p)) (f (80 + p)) (f (120 + p)) = q
    have hqin := near_in f (f (160 + p) + 1) (f (40 + p)) (f (80 + p)) (f (120 + p))
    rw [hq] at hqin
    split
    · rename_i hc
      have hm1 : 1 ≤ m := by
        rcases Nat.eq_zero_or_pos m with z | z
        · exfalso
          rcases hc with hc | hc
          · exact near_some (f := f) (l := f (160 + p) + 1) (x := f (40 + p)) (y := f (80 + p)) (z := f (120 + p)) r0 r1 ⟨hr, by omega⟩ (by rw [hq]; exact hc)
          · rcases hqin with hqn | ⟨q0, q1, -, -⟩
            · exact near_some (f := f) (l := f (160 + p) + 1) (x := f (40 + p)) (y := f (80 + p)) (z := f (120 + p)) r0 r1 ⟨hr, by omega⟩ (by rw [hq]; exact hqn)
            · have hf : 0 ≤ farT f q (f (40 + p)) (f (80 + p)) (f (120 + p)) ∧ farT f q (f (40 + p)) (f (80 + p)) (f (120 + p)) ≤ 765 := farF_in (hw _ q0 q1).1 (hw _ q0 q1).2.1 (hw _ q0 q1).2.2 w1 w2 w3
              rw [show f (160 + p) = 9 by omega] at hc
              have : (2 : Int) * 2 ^ (9 : Int).toNat = 1024 := by decide
              omega
        · exact z
      have e1 : up1 f (160 + p) (f (160 + p) + 1) (160 + p) = f (160 + p) + 1 := up1_s _ _ _
      obtain ⟨a1, a2, a3, a4, a5, a6, a7⟩ := ih (up1 f (160 + p) (f (160 + p) + 1)) (wfc_up hw (by omega)) (by rw [up1_n (by omega)]; exact hr) (by rw [up1_n (by omega)]; exact hr') (by rw [e1]; omega) (by rw [e1]; omega) hm1
      rw [e1] at a2
      rw [up1_n (by omega)] at a5
      rw [up1_n (by omega)] at a7
      refine ⟨fun j j1 j2 => ?_, by omega, a3, a4, a5, a6, a7⟩
      rw [a1 j j1 j2, up1_n j1]
    · rename_i hc
      rcases hqin with hqn | ⟨q0, q1, q2, q3⟩
      · exact absurd (Or.inl hqn) hc
      · rw [up1_s, up1_n (show 160 + p ≠ 200 + p by omega)]
        exact ⟨fun j j1 j2 => up1_n j2, Int.le_refl _, by omega, ⟨q0, q1⟩, q2, fun z => by rw [z] at q3; omega, by omega⟩
theorem rise_spec {f : Int → Int} {p r : Int} (h0 : 0 ≤ p) (h1 : p < 40) (r0 : 0 ≤ r) (r1 : r < 40) (hpr : p ≠ r) (hw : wfc f) (hr : f r = 1) (hr' : 10 ≤ f (160 + r)) (hl : 0 ≤ f (160 + p)) (hl' : f (160 + p) ≤ 9) : (∀ j, j ≠ 160 + p → j ≠ 200 + p → rise f p j = f j) ∧ f (160 + p) ≤ rise f p (160 + p) ∧ rise f p (160 + p) ≤ 9 ∧ (0 ≤ rise f p (200 + p) ∧ rise f p (200 + p) < 40) ∧ f (rise f p (200 + p)) = 1 ∧ rise f p (200 + p) ≠ p ∧ rise f p (160 + p) < f (160 + rise f p (200 + p)) := riseF_spec h0 h1 r0 r1 hpr _ f hw hr hr' hl (by omega) (by omega)
theorem wfc_rise {f : Int → Int} {p r : Int} (h0 : 0 ≤ p) (h1 : p < 40) (r0 : 0 ≤ r) (r1 : r < 40) (hpr : p ≠ r) (hw : wfc f) (hr : f r = 1) (hr' : 10 ≤ f (160 + r)) (hl : 0 ≤ f (160 + p)) (hl' : f (160 + p) ≤ 9) : wfc (rise f p) := by
  obtain ⟨a1, -⟩ := rise_spec h0 h1 r0 r1 hpr hw hr hr' hl hl'
  intro q g0 g1
  have := hw q g0 g1
  rw [a1 _ (by omega) (by omega), a1 _ (by omega) (by omega), a1 _ (by omega) (by omega)]
  exact this
def markF (f : Int → Int) : List Int → (Int → Int)
  | [] => f
  | q :: L => markF (up1 f (200 + q) 1000000) L
def risesF (f : Int → Int) : List Int → (Int → Int)
  | [] => f
  | q :: L => risesF (rise f q) L
def goesL (f : Int → Int) (wr : Int) : List Int → (Int → Int)
  | [] => f
  | q :: L => if wr = 1 then risesF (up1 (up1 f (160 + q) 10) (200 + q) (-1)) L else risesF f (q :: L)
def goesF (f : Int → Int) (g : Int) : Int → Int := goesL (markF (up1 f g 0) (kids (up1 f g 0) g)) (if f (160 + g) = 10 then 1 else 0) (kids (up1 f g 0) g)
section M11
variable {n : Nat} {K : Option sxV → sxT → sxS → Prop}
/-- all of a list are points, apart, below the highest level -/
def lstOk (f : Int → Int) (L : List Int) : Prop := L.Nodup ∧ ∀ q ∈ L, (0 ≤ q ∧ q < 40) ∧ f q = 1 ∧ 0 ≤ f (160 + q) ∧ f (160 + q) ≤ 9
theorem x254b {g wr m r : Int} (r0 : 0 ≤ r) (r1 : r < 40) : ∀ (L : List Int) (σ : sxS) (i : Int), 0 ≤ i → i + L.length = m → m ≤ 40 → (0 < i ∨ wr = 0) → (∀ (j : Nat) (h : j < L.length), σ 159 (i + j) = L[j]) → wfc (σ 150) → lstOk (σ 150) L → r ∉ L → σ 150 r = 1 → 10 ≤ σ 150 (160 + r) → K none (T0 n) (sc σ 150 (risesF (σ 150) L)) → Rn 254 82 [some (vR 149), some (vI g), some (vI wr), some (vI m), some (vI i)] [] (T0 n) σ K := by
  intro L
  induction L with
  | nil =>
    intro σ i i0 im m40 hi hL hw hok hrL hr hr' hK
    simp only [List.length_nil] at im
    rw [s254_82]
    simp only [s254_84, s254_85, s254_88, s254_90, s254_93, s254_94, s254_97, s254_98, s254_99, s254_102, s254_104, s254_105, s254_108, s254_111, s254_112, s254_115, s254_118, s254_119, s254_122, s254_123, s254_124, s254_125, s254_127, s254_128, s254_129, s254_132, s254_135, s254_136, s254_139, s254_140, s254_141, s254_142, s254_143, s254_144, s254_147, s254_150, sx_push, tf, List.length_cons, List.length_nil, Option.some.injEq, exists_eq_left', Nat.reduceAdd, Nat.reduceLeDiff, true_and, and_true, true_or, or_true, Int.zero_add, Nat.zero_le, eq_self, ne_eq, not_true_eq_false, not_false_eq_true, false_implies, true_implies, implies_true, b2i_0, b2i_1, b2i_01, up_sc, sc_at, sc_sc, ite_true, ite_false, if_true, if_false, Nat.reduceEqDiff, reduceIte]
    unfold risesF at hK
    rw [sc_id] at hK
    repeat' (first | intro _ | refine And.intro ?_ ?_)
    all_goals first | exact hK | omega
  | cons q L ih =>
    intro σ i i0 im m40 hi hL hw hok hrL hr hr' hK
    simp only [List.length_cons] at im
    have hq := hL 0 (by simp)
    simp only [Int.natCast_zero, Int.add_zero, List.getElem_cons_zero] at hq
    obtain ⟨⟨q0, q1⟩, q2, q3, q4⟩ := hok.2 q List.mem_cons_self
    have hqr : q ≠ r := fun z => hrL (by rw [z]; exact List.mem_cons_self)
    obtain ⟨a1, a2, a3, a4, a5, a6, a7⟩ := rise_spec q0 q1 r0 r1 hqr hw hr hr' q3 q4
    have nd := List.nodup_cons.mp hok.1
    have go : Rn 254 82 [some (vR 149), some (vI g), some (vI wr), some (vI m), some (vI (i + 1))] [] (T0 n) (sc σ 150 (rise (σ 150) q)) K := by
      refine ih (sc σ 150 (rise (σ 150) q)) (i + 1) (by omega) (by omega) m40 (by omega) (fun j hj => ?_) ?_ ⟨nd.2, fun z hz => ?_⟩ (fun z => hrL (List.mem_cons_of_mem _ z)) ?_ ?_ ?_
      · have := hL (j + 1) (by simp; omega)
        simp only [List.getElem_cons_succ] at this
        simp only [sc_at, Nat.reduceEqDiff, reduceIte]
        rw [← this]
        congr 1
        omega
      · simp only [sc_at, reduceIte]
        exact wfc_rise q0 q1 r0 r1 hqr hw hr hr' q3 q4
      · simp only [sc_at, reduceIte]
        obtain ⟨⟨z0, z1⟩, z2, z3, z4⟩ := hok.2 z (List.mem_cons_of_mem _ hz)
        have hzq : z ≠ q := fun y => nd.1 (by rw [← y]; exact hz)
        rw [a1 _ (by omega) (by omega), a1 _ (by omega) (by omega)]
        exact ⟨⟨z0, z1⟩, z2, z3, z4⟩
      · simp only [sc_at, reduceIte]
        rw [a1 _ (by omega) (by omega)]; exact hr
      · simp only [sc_at, reduceIte]
        rw [a1 _ (by omega) (by omega)]; exact hr'
      · simp only [sc_at, reduceIte, sc_sc]
        exact hK
    rw [s254_82]
    simp only [s254_84, s254_85, s254_88, s254_90, s254_93, s254_94, s254_97, s254_98, s254_99, s254_102, s254_104, s254_105, s254_108, s254_144, s254_147, s254_150, sx_push, tf, List.length_cons, List.length_nil, Option.some.injEq, exists_eq_left', Nat.reduceAdd, Nat.reduceLeDiff, true_and, and_true, true_or, or_true, Int.zero_add, Nat.zero_le, eq_self, ne_eq, not_true_eq_false, not_false_eq_true, false_implies, true_implies, implies_true, b2i_0, b2i_1, b2i_01, up_sc, sc_at, sc_sc, ite_true, ite_false, if_true, if_false, Nat.reduceEqDiff, reduceIte, hq, x256 q0 q1 r0 r1 hqr hw hr hr' q3 q4]
    repeat' (first | intro _ | refine And.intro ?_ ?_)
    all_goals first | omega | exact go
theorem x254a {g wr : Int} (g0 : 0 ≤ g) (g1 : g < 40) : ∀ (N : Nat) (σ : sxS) (D : List Int), (kids (σ 150) g).length = N → D.length + N ≤ 40 → (∀ (j : Nat) (h : j < D.length), σ 159 (j : Int) = D[j]) → (∀ q, 0 ≤ q → q < 40 → σ 150 q = 1 → 0 ≤ σ 150 (160 + q)) → (∀ σ' : sxS, σ' 150 = markF (σ 150) (kids (σ 150) g) → (∀ (j : Nat) (h : j < (D ++ kids (σ 150) g).length), σ' 159 (j : Int) = (D ++ kids (σ 150) g)[j]) → (∀ k, k ≠ 150 → k ≠ 159 → σ' k = σ k) → Rn 254 79 [some (vR 149), some (vI g), some (vI wr), some (vI ((D ++ kids (σ 150) g).length : Int)), some (vI (-1))] [] (T0 n) σ' K) → Rn 254 39 [some (vR 149), some (vI g), some (vI wr), some (vI (D.length : Int)), some (vI (left (σ 150) g))] [] (T0 n) σ K := by
  intro N
  induction N with
  | zero =>
    intro σ D hN hD h159 hlv hK
    have hk := List.length_eq_zero_iff.mp hN
    have hl : left (σ 150) g = -1 := by
      by_cases z : left (σ 150) g = -1
      · exact z
      · exfalso
        rcases left_spec (σ 150) g with h | ⟨h1, h2, h3, h4⟩
        · exact z h.1
        · rw [kids_cons (M := 1000000) (by omega) z (hlv _ h1 h2 h3.1)] at hk
          cases hk
    have := hK σ (by rw [hk]; rfl) (by rw [hk, List.append_nil]; exact h159) (fun _ _ _ => rfl)
    rw [hk, List.append_nil] at this
    rw [s254_39]
    simp only [s254_41, s254_42, s254_45, s254_46, s254_49, s254_50, s254_52, s254_53, s254_56, s254_57, s254_60, s254_63, s254_65, s254_66, s254_68, s254_69, s254_70, s254_71, s254_74, s254_76, sx_push, tf, List.length_cons, List.length_nil, Option.some.injEq, exists_eq_left', Nat.reduceAdd, Nat.reduceLeDiff, true_and, and_true, true_or, or_true, Int.zero_add, Nat.zero_le, eq_self, ne_eq, not_true_eq_false, not_false_eq_true, false_implies, true_implies, implies_true, b2i_0, b2i_1, b2i_01, up_sc, sc_at, sc_sc, ite_true, ite_false, if_true, if_false, Nat.reduceEqDiff, reduceIte, hl]
    repeat' (first | intro _ | refine And.intro ?_ ?_)
    all_goals first | exact this | omega
  | succ N ih =>
    intro σ D hN hD h159 hlv hK
    have z : left (σ 150) g ≠ -1 := fun z => by rw [kids_nil z] at hN; cases hN
    rcases left_spec (σ 150) g with h | ⟨h1, h2, h3, h4⟩
    · exact absurd h.1 z
    have hc := kids_cons (M := 1000000) (by omega) z (hlv _ h1 h2 h3.1)
    generalize hq : left (σ 150) g = q at *
    have hN' : (kids (up1 (σ 150) (200 + q) 1000000) g).length = N := by rw [hc] at hN; simpa using hN
    have e150 : sc (sc σ 150 (up1 (σ 150) (200 + q) 1000000)) 159 (up1 (σ 159) (D.length : Int) q) 150 = up1 (σ 150) (200 + q) 1000000 := by simp only [sc_at, Nat.reduceEqDiff, reduceIte]
    have e159 : sc (sc σ 150 (up1 (σ 150) (200 + q) 1000000)) 159 (up1 (σ 159) (D.length : Int) q) 159 = up1 (σ 159) (D.length : Int) q := by simp only [sc_at, reduceIte]
    have go := ih (sc (sc σ 150 (up1 (σ 150) (200 + q) 1000000)) 159 (up1 (σ 159) (D.length : Int) q)) (D ++ [q]) (by rw [e150]; exact hN') (by simp; omega) (fun j hj => ?_) (fun y y0 y1 y2 => ?_) (fun σ' s1 s2 s3 => ?_)
    · rw [e150] at go
      simp only [List.length_append, List.length_cons, List.length_nil, Nat.zero_add, Int.natCast_add, Int.natCast_one] at go
      rw [s254_39]
      simp only [s254_41, s254_42, s254_45, s254_46, s254_49, s254_50, s254_52, s254_53, s254_56, s254_57, s254_60, s254_63, s254_65, s254_66, s254_68, s254_69, s254_70, s254_71, s254_74, s254_76, scm, up1_s, up1_up1, Int.add_assoc, Int.reduceAdd, Int.reduceSub, Int.reduceMul, Int.reduceNeg, Int.reduceLT, Int.reduceLE, Int.reduceEq, Int.reduceNe, Int.reduceToNat, Int.reducePow, Nat.reduceLT, sx_push, tf, List.length_cons, List.length_nil, Option.some.injEq, exists_eq_left', Nat.reduceAdd, Nat.reduceLeDiff, true_and, and_true, true_or, or_true, Int.zero_add, Nat.zero_le, eq_self, ne_eq, not_true_eq_false, not_false_eq_true, false_implies, true_implies, implies_true, b2i_0, b2i_1, b2i_01, up_sc, sc_at, sc_sc, ite_true, ite_false, if_true, if_false, Nat.reduceEqDiff, reduceIte, x255]
      repeat' (first | intro _ | refine And.intro ?_ ?_)
      all_goals first | omega | exact go
    · rw [e159]
      by_cases y : j = D.length
      · subst y
        rw [up1_s, List.getElem_append_right (Nat.le_refl _)]
        simp
      · have hj' : j < D.length := by simp at hj; omega
        rw [up1_n (by omega), h159 j hj', List.getElem_append_left hj']
    · rw [e150] at y2 ⊢
      rw [up1_n (by omega)] at y2
      rw [up1_n (by omega)]
      exact hlv y y0 y1 y2
    · rw [e150] at s1 s2 ⊢
      have ea : D ++ [q] ++ kids (up1 (σ 150) (200 + q) 1000000) g = D ++ kids (σ 150) g := by rw [hc, List.append_assoc]; rfl
      have := hK σ' (by rw [s1, hc]; rfl) (fun j hj => ?_) (fun k k1 k2 => ?_)
      · simp only [ea]
        exact this
      · have := s2 j (by rw [ea]; exact hj)
        simp only [ea] at this
        exact this
      · rw [s3 k k1 k2]
        simp only [sc_at, k1, k2, reduceIte]
end M11
