/-! points of the class: one that leaves -/
def wrO (σ : sxS) (o : Nat) : Int := if σ o 5 = -1 then 1 else 0
/-- the class's points while those left by g are taken, R still to come -/
def jL (o : Nat) (g : Int) (σ : sxS) (f : Int → Int) (R : List Int) : Prop := rL σ o f ∧ wfc f ∧ (∀ p, 0 ≤ p → p < 40 → f p = 1 → p ∉ R → σ (o + 3) p = f (200 + p) ∧ σ (o + 3) p ≠ g) ∧ (∀ p ∈ R, σ (o + 3) p = g) ∧ lstOk f R ∧ (σ o 5 ≠ -1 → (0 ≤ σ o 5 ∧ σ o 5 < 40) ∧ f (σ o 5) = 1 ∧ 10 ≤ f (160 + σ o 5) ∧ σ o 5 ∉ R) ∧ (σ o 5 = -1 → ∀ p, 0 ≤ p → p < 40 → f p = 1 → f (160 + p) ≤ 9) ∧ f g ≠ 1
def lvS (o : Nat) (σ σ' : sxS) : Prop := fr σ σ' o (o + 4) ∧ σ' (o + 4) = σ (o + 4) ∧ σ' o 4 = σ o 4 ∧ σ' o 6 = σ o 6 ∧ ∀ p, σ (o + 2) p < 0 → σ' (o + 2) p = σ (o + 2) p
theorem lvS_rfl {o : Nat} {σ : sxS} : lvS o σ σ := ⟨fr_rfl, rfl, rfl, rfl, fun _ _ => rfl⟩
theorem lvS_tr {o : Nat} {σ σ' σ2 : sxS} (h : lvS o σ σ') (h2 : lvS o σ' σ2) : lvS o σ σ2 := ⟨fr_tr h.1 h2.1, h2.2.1.trans h.2.1, h2.2.2.1.trans h.2.2.1, h2.2.2.2.1.trans h.2.2.2.1, fun p hp => by rw [h2.2.2.2.2 p (by rw [h.2.2.2.2 p hp]; exact hp), h.2.2.2.2 p hp]⟩
theorem goesL_0 (f : Int → Int) (L : List Int) : goesL f 0 L = risesF f L := by
  cases L with
  | nil => rfl
  | cons q L => simp [goesL]
theorem jL_step {o : Nat} {g q : Int} {σ σ' : sxS} {f h : Int → Int} {R : List Int} {lv pa : Int} (hj : jL o g σ f (q :: R)) (g0 : 0 ≤ g ∧ g < 40) (e1 : fr σ σ' o (o + 4)) (e2 : σ' (o + 1) = σ (o + 1)) (e3 : σ' (o + 4) = σ (o + 4)) (e5 : σ' (o + 2) = up1 (σ (o + 2)) q lv) (e6 : σ' (o + 3) = up1 (σ (o + 3)) q pa) (hh : h = up1 (up1 f (160 + q) lv) (200 + q) pa) (e4 : σ' o 4 = σ o 4) (e46 : σ' o 6 = σ o 6) (l0 : 0 ≤ lv) (l1 : lv ≤ 10) (hpa : pa ≠ g) (hr1 : σ' o 5 ≠ -1) (hr2 : (σ o 5 = -1 ∧ σ' o 5 = q ∧ lv = 10) ∨ (σ o 5 ≠ -1 ∧ σ' o 5 = σ o 5)) : jL o g σ' h R ∧ (∀ p ∈ R, h (160 + p) = f (160 + p)) ∧ lvS o σ σ' := by
  obtain ⟨j1, j2, j3, j4, j5, j6, j7, j8⟩ := hj
  have hq := j5.2 q List.mem_cons_self
  have nd := List.nodup_cons.mp j5.1
  have hne : ∀ p, 0 ≤ p → p < 40 → p ≠ q → h p = f p ∧ h (160 + p) = f (160 + p) ∧ h (200 + p) = f (200 + p) := fun p p0 p1 e => by
    rw [hh, up1_n (by omega), up1_n (by omega), up1_n (by omega), up1_n (by omega), up1_n (by omega), up1_n (by omega)]; exact ⟨rfl, rfl, rfl⟩
  have hq1 : h q = f q ∧ h (160 + q) = lv ∧ h (200 + q) = pa := by
    rw [hh, up1_n (by omega), up1_n (by omega), up1_n (by omega), up1_s, up1_s]; exact ⟨rfl, rfl, rfl⟩
  have hpl : ∀ j, j < 160 ∨ 240 ≤ j → h j = f j := fun j hj => by rw [hh, up1_n (by omega), up1_n (by omega)]
  have hneq : ∀ p ∈ R, p ≠ q := fun p hp e => nd.1 (e ▸ hp)
  refine ⟨⟨fun p p0 p1 => ?_, ?_, fun p p0 p1 hp hR => ?_, fun p hp => ?_, ⟨nd.2, fun p hp => ?_⟩, fun _ => ?_, fun e => absurd e hr1, ?_⟩, fun p hp => ?_, e1, e3, e4, e46, fun p hp => ?_⟩
  · rw [hpl (40 + p) (by omega), hpl (80 + p) (by omega), hpl (120 + p) (by omega), hpl 480 (by omega), hpl p (by omega), e2, e4, e5]
    by_cases e : p = q
    · subst e
      rcases j1 p p0 p1 with ⟨c1, c2, c3, c4, c5, c6⟩ | ⟨c1, c2⟩
      · exact Or.inl ⟨c1, by rw [up1_s, hq1.2.1], by omega, by omega, c5, c6⟩
      · omega
    · rw [up1_n e, (hne p p0 p1 e).2.1]
      exact j1 p p0 p1
  · intro p p0 p1
    rw [hpl (40 + p) (by omega), hpl (80 + p) (by omega), hpl (120 + p) (by omega)]
    exact j2 p p0 p1
  · by_cases e : p = q
    · subst e
      rw [e6, up1_s]
      exact ⟨hq1.2.2.symm, hpa⟩
    · have ne := hne p p0 p1 e
      rw [ne.1] at hp
      rw [e6, up1_n e, ne.2.2]
      exact j3 p p0 p1 hp (fun z => by rcases List.mem_cons.mp z with z | z; exact e z; exact hR z)
  · rw [e6, up1_n (hneq p hp)]
    exact j4 p (List.mem_cons_of_mem _ hp)
  · have z := j5.2 p (List.mem_cons_of_mem _ hp)
    have ne := hne p z.1.1 z.1.2 (hneq p hp)
    rw [ne.1, ne.2.1]; exact z
  · rcases hr2 with ⟨r1, r2, r3⟩ | ⟨r1, r2⟩
    · rw [r2, hq1.1, hq1.2.1]
      exact ⟨hq.1, hq.2.1, by omega, nd.1⟩
    · have z := j6 r1
      rw [r2]
      have e : σ o 5 ≠ q := fun e => z.2.2.2 (by rw [e]; exact List.mem_cons_self)
      have ne := hne _ z.1.1 z.1.2 e
      rw [ne.1, ne.2.1]
      exact ⟨z.1, z.2.1, z.2.2.1, fun y => z.2.2.2 (List.mem_cons_of_mem _ y)⟩
  · rw [hpl g (by omega)]; exact j8
  · have z := j5.2 p (List.mem_cons_of_mem _ hp)
    exact (hne p z.1.1 z.1.2 (hneq p hp)).2.1
  · rw [e5, up1_n]
    intro e
    subst e
    rcases j1 p hq.1.1 hq.1.2 with ⟨c1, c2, c3, c4, c5, c6⟩ | ⟨c1, c2⟩
    · omega
    · omega
section C9
variable {n : Nat} {σ : sxS} {K : Option sxV → sxT → sxS → Prop} {o : Nat} {f : Int → Int}
theorem x126s (ho : isP o) {g q : Int} {R : List Int} (g0 : 0 ≤ g ∧ g < 40) (hj : jL o g σ f (q :: R)) (hK : ∀ σ' h, jL o g σ' h R → (∀ p ∈ R, h (160 + p) = f (160 + p)) → lvS o σ σ' → goesL f (wrO σ o) (q :: R) = goesL h (wrO σ' o) R → K none (T0 n) σ') : Rn 37 0 [some (vR o), some (vI q), some (vI (f (160 + q))), some (vI (pk (f (40 + q)) (f (80 + q)) (f (120 + q)))), none] [] (T0 n) σ K := by
  have hj' := hj
  obtain ⟨j1, j2, j3, j4, j5, j6, j7, j8⟩ := hj'
  have hq := j5.2 q List.mem_cons_self
  have w := j2 q hq.1.1 hq.1.2
  refine x37 ho j1 j2 hq.1.1 hq.1.2 hq.2.2.1 hq.2.2.2 w.1 w.2.1 w.2.2 (fun σ' e1 e2 e3 e4 e5 e6 => ?_)
  by_cases e : σ o 5 = -1
  · simp only [if_pos e] at e4 e5 e6
    have c4 : σ' o 4 = σ o 4 ∧ σ' o 6 = σ o 6 ∧ σ' o 5 = q := by rw [e4]; simp [up1]
    have st := jL_step (σ' := σ') (lv := 10) (pa := -1) hj g0 e1 e2 e3 e5 e6 rfl c4.1 c4.2.1 (by omega) (by omega) (by omega) (by omega) (Or.inl ⟨e, c4.2.2, rfl⟩)
    refine hK σ' _ st.1 st.2.1 st.2.2 ?_
    unfold wrO
    rw [if_pos e, if_neg (by omega), goesL_0]
    simp [goesL]
  · simp only [if_neg e] at e4 e5 e6
    have z := j6 e
    have en : q ≠ σ o 5 := fun y => z.2.2.2 (by rw [← y]; exact List.mem_cons_self)
    have rl := rise_lv hq.1.1 hq.1.2 z.1.1 z.1.2 en j2 z.2.1 z.2.2.1 hq.2.2.1 hq.2.2.2
    have li := lvF_in f (f (40 + q)) (f (80 + q)) (f (120 + q)) (9 - f (160 + q)).toNat (f (160 + q) + 1) (by omega) (by omega)
    have hn : near f (lvF f (f (40 + q)) (f (80 + q)) (f (120 + q)) (9 - f (160 + q)).toNat (f (160 + q) + 1) + 1) (f (40 + q)) (f (80 + q)) (f (120 + q)) ≠ g := fun y => by
      rcases near_in f (lvF f (f (40 + q)) (f (80 + q)) (f (120 + q)) (9 - f (160 + q)).toNat (f (160 + q) + 1) + 1) (f (40 + q)) (f (80 + q)) (f (120 + q)) with h | ⟨n0, n1, n2, -⟩
      · omega
      · rw [y] at n2; exact j8 n2
    have st := jL_step (σ' := σ') hj g0 e1 e2 e3 e5 e6 rl (by rw [e4]) (by rw [e4]) (by omega) (by omega) hn (by rw [e4]; exact e) (Or.inr ⟨e, by rw [e4]⟩)
    refine hK σ' _ st.1 st.2.1 st.2.2 ?_
    unfold wrO
    rw [e4, if_neg e, goesL_0, goesL_0]
    rfl
theorem x126i (ho : isP o) {g lv : Int} {m : Nat} {f1 : Int → Int} (g0 : 0 ≤ g ∧ g < 40) (hlv : 0 ≤ lv ∧ lv ≤ 9) : ∀ (k : Nat) (q : Int) (σ : sxS) (f : Int → Int), q + k = 40 → 0 ≤ q → jL o g σ f (kq f1 g lv k q ++ kl f1 g m (lv - 1)) → (∀ p ∈ kq f1 g lv k q ++ kl f1 g m (lv - 1), f (160 + p) = f1 (160 + p) ∧ f1 p = 1 ∧ f1 (200 + p) = g) → (∀ σ' h, jL o g σ' h (kl f1 g m (lv - 1)) → (∀ p ∈ kl f1 g m (lv - 1), h (160 + p) = f1 (160 + p) ∧ f1 p = 1 ∧ f1 (200 + p) = g) → lvS o σ σ' → goesL f (wrO σ o) (kq f1 g lv k q ++ kl f1 g m (lv - 1)) = goesL h (wrO σ' o) (kl f1 g m (lv - 1)) → Rn 126 106 [some (vR o), some (vI g), some (vI lv), some (vI 40)] [] (T0 n) σ' K) → Rn 126 62 [some (vR o), some (vI g), some (vI lv), some (vI q)] [] (T0 n) σ K := by
  intro k
  induction k with
  | zero =>
    intro q σ f hq q0 hj hR hK
    obtain rfl : q = 40 := by omega
    rw [s126_62]
    simp only [s126_63, s126_65, sx_push, tf, List.length_cons, List.length_nil, Option.some.injEq, exists_eq_left', Nat.reduceAdd, Nat.reduceLeDiff, true_and, and_true, true_or, or_true, Int.zero_add, Nat.zero_le, eq_self, ne_eq, not_true_eq_false, not_false_eq_true, false_implies, true_implies, implies_true, b2i_0, b2i_1, b2i_01, up_sc, sc_at, sc_sc, ite_true, ite_false, if_true, if_false, Nat.reduceEqDiff, reduceIte]
    repeat' (first | intro _ | refine And.intro ?_ ?_)
    all_goals first | omega | exact hK σ f hj hR lvS_rfl rfl
  | succ k ih =>
    intro q σ f hq q0 hj hR hK
    have q1 : q < 40 := by omega
    rw [s126_62]
    by_cases c : f1 q = 1 ∧ f1 (160 + q) = lv ∧ f1 (200 + q) = g
    · rw [show kq f1 g lv (k + 1) q = q :: kq f1 g lv k (q + 1) by rw [kq, if_pos c]] at hj hR hK
      rw [List.cons_append] at hj hR hK
      have hj' := hj
      obtain ⟨j1, j2, j3, j4, j5, j6, j7, j8⟩ := hj'
      have hr := hR q List.mem_cons_self
      have hl : f (160 + q) = lv := by omega
      have hp := j4 q List.mem_cons_self
      have hq5 := j5.2 q List.mem_cons_self
      rcases j1 q q0 q1 with ⟨c1, c2, c3, c4, c5, c6⟩ | ⟨c1, c2⟩
      · simp only [s126_63, s126_65, s126_68, s126_69, s126_72, s126_73, s126_74, s126_75, s126_78, s126_79, s126_82, s126_83, s126_84, s126_85, s126_88, s126_89, s126_90, s126_91, s126_92, s126_95, s126_96, s126_97, sx_push, tf, List.length_cons, List.length_nil, Option.some.injEq, exists_eq_left', Nat.reduceAdd, Nat.reduceLeDiff, true_and, and_true, true_or, or_true, Int.zero_add, Nat.zero_le, eq_self, ne_eq, not_true_eq_false, not_false_eq_true, false_implies, true_implies, implies_true, b2i_0, b2i_1, b2i_01, up_sc, sc_at, sc_sc, ite_true, ite_false, if_true, if_false, Nat.reduceEqDiff, reduceIte, tp ho, c2, hl, hp, c5]
        repeat' (first | intro _ | refine And.intro ?_ ?_)
        all_goals first | omega | skip
        have st := x126s (n := n) (K := fun r T' σ' => Rn 126 100 [some (vR o), some (vI g), some (vI lv), some (vI q)] (sx_push r []) T' σ' K) ho g0 hj (fun σ' h a1 a2 a3 a4 => ?_)
        · rw [hl] at st; exact st
        · simp only [s126_100, s126_103, sx_push, tf, List.length_cons, List.length_nil, Option.some.injEq, exists_eq_left', Nat.reduceAdd, Nat.reduceLeDiff, true_and, and_true, true_or, or_true, Int.zero_add, Nat.zero_le, eq_self, ne_eq, not_true_eq_false, not_false_eq_true, false_implies, true_implies, implies_true, b2i_0, b2i_1, b2i_01, up_sc, sc_at, sc_sc, ite_true, ite_false, if_true, if_false, Nat.reduceEqDiff, reduceIte]
          repeat' (first | intro _ | refine And.intro ?_ ?_)
          all_goals first | omega | skip
          refine ih (q + 1) σ' h (by omega) (by omega) a1 (fun p hp => ?_) (fun σ2 h2 b1 b2 b3 b4 => hK σ2 h2 b1 b2 (lvS_tr a3 b3) (a4.trans b4))
          rw [a2 p hp]
          exact hR p (List.mem_cons_of_mem _ hp)
      · omega
    · rw [show kq f1 g lv (k + 1) q = kq f1 g lv k (q + 1) by rw [kq, if_neg c]] at hj hR hK
      have hj' := hj
      obtain ⟨j1, j2, j3, j4, j5, j6, j7, j8⟩ := hj'
      have go : Rn 126 62 [some (vR o), some (vI g), some (vI lv), some (vI (q + 1))] [] (T0 n) σ K := ih (q + 1) σ f (by omega) (by omega) hj hR hK
      rcases j1 q q0 q1 with ⟨c1, c2, c3, c4, c5, c6⟩ | ⟨c1, c2⟩
      · have hn : ¬ (f (160 + q) = lv ∧ σ (o + 3) q = g) := fun y => by
          by_cases e : q ∈ kq f1 g lv k (q + 1) ++ kl f1 g m (lv - 1)
          · have := hR q e
            exact c ⟨this.2.1, by omega, this.2.2⟩
          · exact (j3 q q0 q1 c1 e).2 y.2
        simp only [s126_63, s126_65, s126_68, s126_69, s126_72, s126_73, s126_74, s126_75, s126_78, s126_79, s126_82, s126_83, s126_84, s126_85, s126_100, s126_103, sx_push, tf, List.length_cons, List.length_nil, Option.some.injEq, exists_eq_left', Nat.reduceAdd, Nat.reduceLeDiff, true_and, and_true, true_or, or_true, Int.zero_add, Nat.zero_le, eq_self, ne_eq, not_true_eq_false, not_false_eq_true, false_implies, true_implies, implies_true, b2i_0, b2i_1, b2i_01, up_sc, sc_at, sc_sc, ite_true, ite_false, if_true, if_false, Nat.reduceEqDiff, reduceIte, tp ho, c2]
        repeat' (first | intro _ | refine And.intro ?_ ?_)
        all_goals first | omega | exact go | (exfalso; exact hn ⟨by assumption, by assumption⟩)
      · simp only [s126_63, s126_65, s126_68, s126_69, s126_72, s126_73, s126_74, s126_75, s126_78, s126_79, s126_82, s126_83, s126_84, s126_85, s126_100, s126_103, sx_push, tf, List.length_cons, List.length_nil, Option.some.injEq, exists_eq_left', Nat.reduceAdd, Nat.reduceLeDiff, true_and, and_true, true_or, or_true, Int.zero_add, Nat.zero_le, eq_self, ne_eq, not_true_eq_false, not_false_eq_true, false_implies, true_implies, implies_true, b2i_0, b2i_1, b2i_01, up_sc, sc_at, sc_sc, ite_true, ite_false, if_true, if_false, Nat.reduceEqDiff, reduceIte, tp ho]
        repeat' (first | intro _ | refine And.intro ?_ ?_)
        all_goals first | omega | exact go
theorem x126l (ho : isP o) {g : Int} {f1 : Int → Int} (g0 : 0 ≤ g ∧ g < 40) : ∀ (m : Nat) (lv : Int) (u : Option sxV) (σ : sxS) (f : Int → Int), lv + 1 = m → lv ≤ 9 → jL o g σ f (kl f1 g m lv) → (∀ p ∈ kl f1 g m lv, f (160 + p) = f1 (160 + p) ∧ f1 p = 1 ∧ f1 (200 + p) = g) → (∀ σ' h, jL o g σ' h [] → lvS o σ σ' → goesL f (wrO σ o) (kl f1 g m lv) = h → K none (T0 n) σ') → Rn 126 56 [some (vR o), some (vI g), some (vI lv), u] [] (T0 n) σ K := by
  intro m
  induction m with
  | zero =>
    intro lv u σ f hm h9 hj hR hK
    rw [s126_56]
    simp only [s126_57, s126_112, sx_push, tf, List.length_cons, List.length_nil, Option.some.injEq, exists_eq_left', Nat.reduceAdd, Nat.reduceLeDiff, true_and, and_true, true_or, or_true, Int.zero_add, Nat.zero_le, eq_self, ne_eq, not_true_eq_false, not_false_eq_true, false_implies, true_implies, implies_true, b2i_0, b2i_1, b2i_01, up_sc, sc_at, sc_sc, ite_true, ite_false, if_true, if_false, Nat.reduceEqDiff, reduceIte]
    repeat' (first | intro _ | refine And.intro ?_ ?_)
    all_goals first | omega | exact hK σ f hj lvS_rfl rfl
  | succ m ih =>
    intro lv u σ f hm h9 hj hR hK
    rw [s126_56]
    simp only [s126_57, s126_60, s126_61, sx_push, tf, List.length_cons, List.length_nil, Option.some.injEq, exists_eq_left', Nat.reduceAdd, Nat.reduceLeDiff, true_and, and_true, true_or, or_true, Int.zero_add, Nat.zero_le, eq_self, ne_eq, not_true_eq_false, not_false_eq_true, false_implies, true_implies, implies_true, b2i_0, b2i_1, b2i_01, up_sc, sc_at, sc_sc, ite_true, ite_false, if_true, if_false, Nat.reduceEqDiff, reduceIte]
    repeat' (first | intro _ | refine And.intro ?_ ?_)
    all_goals first | omega | skip
    unfold kl at hj hR hK
    refine x126i ho g0 ⟨by omega, h9⟩ 40 0 σ f (by omega) (by omega) hj hR (fun σ' h a1 a2 a3 a4 => ?_)
    have e : lv + -1 = lv - 1 := by omega
    simp only [s126_106, s126_109, sx_push, tf, List.length_cons, List.length_nil, Option.some.injEq, exists_eq_left', Nat.reduceAdd, Nat.reduceLeDiff, true_and, and_true, true_or, or_true, Int.zero_add, Nat.zero_le, eq_self, ne_eq, not_true_eq_false, not_false_eq_true, false_implies, true_implies, implies_true, b2i_0, b2i_1, b2i_01, up_sc, sc_at, sc_sc, ite_true, ite_false, if_true, if_false, Nat.reduceEqDiff, reduceIte, e]
    repeat' (first | intro _ | refine And.intro ?_ ?_)
    all_goals first | omega | exact ih (lv - 1) _ σ' h (by omega) (by omega) a1 a2 (fun σ2 h2 b1 b2 b3 => hK σ2 h2 b1 (lvS_tr a3 b2) (a4.trans b3))
theorem x126n (ho : isP o) (hr : rL σ o f) {g : Int} (hg : ¬ ((0 ≤ g ∧ g < 40) ∧ f g = 1)) : Rn 126 0 [some (vR o), some (vI g), none, none] [] (T0 n) σ K ↔ K none (T0 n) σ := by
  refine Rn_iff fun K hK => ?_
  simp only [s126_0, s126_1, s126_2, s126_5, s126_8, sx_push, tf, List.length_cons, List.length_nil, Option.some.injEq, exists_eq_left', Nat.reduceAdd, Nat.reduceLeDiff, true_and, and_true, true_or, or_true, Int.zero_add, Nat.zero_le, eq_self, ne_eq, not_true_eq_false, not_false_eq_true, false_implies, true_implies, implies_true, b2i_0, b2i_1, b2i_01, up_sc, sc_at, sc_sc, ite_true, ite_false, if_true, if_false, Nat.reduceEqDiff, reduceIte, tp ho, x49 ho hr]
  repeat' (first | intro _ | refine And.intro ?_ ?_)
  all_goals first | exact hK | (exfalso; contradiction) | omega
theorem x126 (ho : isP o) (ha : rA σ o f) (hi : invF f) (hz : rtP f) (hb : rB σ o f) {g : Int} (g0 : 0 ≤ g) (g1 : g < 40) (hg : f g = 1) (hK : ∀ σ', fr σ σ' o (o + 4) → σ' (o + 4) = up1 (σ (o + 4)) g 0 → σ' o 4 = σ o 4 → rA σ' o (goesF f g) → rB σ' o (goesF f g) → K none (T0 n) σ') : Rn 126 0 [some (vR o), some (vI g), none, none] [] (T0 n) σ K := by
  obtain ⟨hr, hp, hroot, hcnt⟩ := ha
  have hc := cntF_in hi.1 40 0 0 (by omega) (by omega)
  have tg := hi.2.2.1 g g0 g1 hg
  have f1n : ∀ j, j ≠ g → up1 f g 0 j = f j := fun j hj => up1_n hj
  have f1g : up1 f g 0 g = 0 := up1_s _ _ _
  have kr : ∀ q ∈ kids (up1 f g 0) g, 0 ≤ q ∧ q < 40 := fun q hq => (kids_mem hq).1
  have mk : ∀ j, (j < 200 ∨ 240 ≤ j) → markF (up1 f g 0) (kids (up1 f g 0) g) j = up1 f g 0 j := fun j hj => markF_n (f := f) _ _ j hj kr
  have kin : ∀ q, 0 ≤ q → q < 40 → q ≠ g → f q = 1 → f (200 + q) = g → q ∈ kids (up1 f g 0) g := fun q q0 q1 e hq hq2 => by
    have t := hi.2.2.1 q q0 q1 hq
    have : f (160 + q) ≤ 9 := by
      by_cases e2 : f (160 + q) = 10
      · have := hz q q0 q1 hq e2; omega
      · omega
    exact kids_in q0 q1 ⟨by rw [f1n _ e]; exact hq, by rw [f1n _ (by omega)]; exact hq2⟩ (by rw [f1n _ (by omega)]; omega) (by rw [f1n _ (by omega)]; exact this)
  have ig := inv_goes hi g0 g1 hg
  have main : ∀ σ1 : sxS, fr σ σ1 o (o + 4) → σ1 (o + 1) = σ (o + 1) → σ1 (o + 2) = up1 (σ (o + 2)) g (-1) → σ1 (o + 3) = up1 (σ (o + 3)) g (-1) → σ1 (o + 4) = up1 (σ (o + 4)) g 0 → σ1 o 4 = σ o 4 → σ1 o 6 = σ o 6 - 1 → σ1 o 5 = (if σ o 5 = g then -1 else σ o 5) → Rn 126 53 [some (vR o), some (vI g), none, none] [] (T0 n) σ1 K := by
    intro σ1 b0 b1 b2 b3 b4 b5 b6 b7
    simp only [s126_53, s126_55, sx_push, tf, List.length_cons, List.length_nil, Option.some.injEq, exists_eq_left', Nat.reduceAdd, Nat.reduceLeDiff, true_and, and_true, true_or, or_true, Int.zero_add, Nat.zero_le, eq_self, ne_eq, not_true_eq_false, not_false_eq_true, false_implies, true_implies, implies_true, b2i_0, b2i_1, b2i_01, up_sc, sc_at, sc_sc, ite_true, ite_false, if_true, if_false, Nat.reduceEqDiff, reduceIte]
    have hj : jL o g σ1 (markF (up1 f g 0) (kids (up1 f g 0) g)) (kids (up1 f g 0) g) := by
      refine ⟨fun p p0 p1 => ?_, fun p p0 p1 => ?_, fun p p0 p1 hp1 hp2 => ?_, fun p hp1 => ?_, ⟨kids_nd, fun p hp1 => ?_⟩, fun e => ?_, fun e => ?_, ?_⟩
      · rw [mk p (by omega), mk (160 + p) (by omega), mk (40 + p) (by omega), mk (80 + p) (by omega), mk (120 + p) (by omega), mk 480 (by omega), b1, b2, b5, f1n (160 + p) (by omega), f1n (40 + p) (by omega), f1n (80 + p) (by omega), f1n (120 + p) (by omega), f1n 480 (by omega)]
        by_cases e : p = g
        · subst e; rw [f1g, up1_s]; exact Or.inr ⟨rfl, by decide⟩
        · rw [f1n p e, up1_n e]; exact hr p p0 p1
      · rw [mk (40 + p) (by omega), mk (80 + p) (by omega), mk (120 + p) (by omega), f1n (40 + p) (by omega), f1n (80 + p) (by omega), f1n (120 + p) (by omega)]
        exact hi.2.1 p p0 p1
      · rw [mk p (by omega)] at hp1
        have e : p ≠ g := fun e => by rw [e, f1g] at hp1; cases hp1
        rw [f1n p e] at hp1
        rw [b3, up1_n e, markF_p _ _ p hp2 kr p0 p1, f1n _ (by omega), hp p p0 p1 hp1]
        exact ⟨rfl, fun y => hp2 (kin p p0 p1 e hp1 y)⟩
      · have z := kids_mem hp1
        have e : p ≠ g := fun e => by rw [e, f1g] at z; exact absurd z.2.1 (by decide)
        rw [f1n p e, f1n _ (by omega), f1n _ (by omega)] at z
        rw [b3, up1_n e, hp p z.1.1 z.1.2 z.2.1]
        exact z.2.2.2.2
      · have z := kids_mem hp1
        rw [mk p (by omega), mk (160 + p) (by omega)]
        exact ⟨z.1, z.2.1, z.2.2.1, z.2.2.2.1⟩
      · rw [b7] at e ⊢
        by_cases e2 : σ o 5 = g
        · rw [if_pos e2] at e; exact absurd rfl e
        · rw [if_neg e2] at e ⊢
          rw [hroot] at e e2 ⊢
          have z := root_n1 hi e
          rw [mk _ (by omega), mk _ (by omega), f1n _ e2, f1n _ (by omega)]
          refine ⟨z.1, z.2.1, by omega, fun y => ?_⟩
          have y := kids_mem y
          rw [f1n (160 + rootF f 40 0) (by omega)] at y
          omega
      · intro p p0 p1 hp1
        rw [mk p (by omega)] at hp1
        have e2 : p ≠ g := fun e => by rw [e, f1g] at hp1; cases hp1
        rw [f1n p e2] at hp1
        rw [mk _ (by omega), f1n _ (by omega)]
        have t := hi.2.2.1 p p0 p1 hp1
        have rs := root_some hi p0 p1 hp1
        by_cases e3 : f (160 + p) = 10
        · have := root_eq hi p0 p1 hp1 e3
          rw [b7] at e
          by_cases e4 : σ o 5 = g
          · omega
          · rw [if_neg e4] at e; omega
        · omega
      · rw [mk g (by omega), f1g]; decide
    refine x126l ho ⟨g0, g1⟩ 10 9 _ σ1 _ (by omega) (by omega) hj (fun p hp1 => ?_) (fun σ' h a1 a2 a3 => ?_)
    · have z := kids_mem hp1
      rw [mk _ (by omega)]
      exact ⟨rfl, z.2.1, z.2.2.2.2⟩
    · have hh : h = goesF f g := by
        rw [← a3]
        unfold goesF wrO
        have e : (σ1 o 5 = -1) ↔ f (160 + g) = 10 := by
          rw [b7, hroot]
          have ri := root_iff hi.2.2.2 hi.2.2.1 g0 g1 hg
          have rs := root_some hi g0 g1 hg
          constructor
          · intro y
            by_cases e2 : rootF f 40 0 = g
            · exact ri.mp e2.symm
            · rw [if_neg e2] at y; omega
          · intro y; rw [if_pos (ri.mpr y).symm]
        by_cases e2 : f (160 + g) = 10
        · rw [if_pos (e.mpr e2), if_pos e2]; rfl
        · rw [if_neg (fun y => e2 (e.mp y)), if_neg e2]; rfl
      subst hh
      obtain ⟨j1, j2, j3, j4, j5, j6, j7, j8⟩ := a1
      obtain ⟨s1, s2, s3, s4, s5⟩ := a2
      refine hK σ' (fr_tr b0 s1) (s2.trans b4) (s3.trans b5) ⟨j1, fun p p0 p1 hp1 => (j3 p p0 p1 hp1 (List.not_mem_nil)).1, ?_, ?_⟩ (fun p p0 p1 hp1 => ?_)
      · by_cases e : σ' o 5 = -1
        · rw [e]
          rcases rootF_sp (goesF f g) 40 0 with ⟨y, -⟩ | ⟨y1, y2, y3, y4⟩
          · exact y.symm
          · have := j7 e _ y1 (by omega) y3; omega
        · have z := j6 e
          have t := ig.1.2.2.1 _ z.1.1 z.1.2 z.2.1
          exact (root_eq ig.1 z.1.1 z.1.2 z.2.1 (by omega)).symm
      · rw [s4, b6, hcnt, cntF_one (f := f) (g := goesF f g) (r := g) (d := -1) (by rw [ig.2 g g0 g1, if_pos rfl]; omega) 40 0 0 g0 (by omega) (fun q q0 q1 e => by rw [ig.2 q (by omega) (by omega), if_neg e])]
        omega
      · rw [ig.2 p p0 p1] at hp1
        by_cases e : p = g
        · subst e
          have z : σ1 (o + 2) p = -1 := by rw [b2, up1_s]
          rw [s5 p (by omega), z]
        · rw [if_neg e] at hp1
          have z : σ1 (o + 2) p = -1 := by rw [b2, up1_n e]; exact hb p p0 p1 hp1
          rw [s5 p (by omega), z]
  by_cases e : σ o 5 = g
  · simp only [s126_0, s126_1, s126_2, s126_5, s126_8, s126_9, s126_10, s126_13, s126_14, s126_15, s126_16, s126_17, s126_20, s126_21, s126_22, s126_23, s126_24, s126_27, s126_28, s126_29, s126_30, s126_31, s126_32, s126_35, s126_36, s126_37, s126_40, s126_41, s126_44, s126_45, s126_48, s126_49, s126_50, sx_push, tf, List.length_cons, List.length_nil, Option.some.injEq, exists_eq_left', Nat.reduceAdd, Nat.reduceLeDiff, true_and, and_true, true_or, or_true, Int.zero_add, Nat.zero_le, eq_self, ne_eq, not_true_eq_false, not_false_eq_true, false_implies, true_implies, implies_true, b2i_0, b2i_1, b2i_01, up_sc, sc_at, sc_sc, ite_true, ite_false, if_true, if_false, Nat.reduceEqDiff, reduceIte, tp ho, oq o, x49 ho hr]
    repeat' (first | intro _ | refine And.intro ?_ ?_)
    all_goals first | omega | (exfalso; simp_all [up1]; done) | skip
    refine main _ ?_ ?_ ?_ ?_ ?_ ?_ ?_ ?_
    · exact fr_sc (fr_sc (fr_sc (fr_sc fr_rfl (by omega) (by omega)) (by omega) (by omega)) (by omega) (by omega)) (by omega) (by omega)
    all_goals simp [sc_at, up1, e]
  · simp only [s126_0, s126_1, s126_2, s126_5, s126_8, s126_9, s126_10, s126_13, s126_14, s126_15, s126_16, s126_17, s126_20, s126_21, s126_22, s126_23, s126_24, s126_27, s126_28, s126_29, s126_30, s126_31, s126_32, s126_35, s126_36, s126_37, s126_40, s126_41, s126_44, s126_45, s126_48, s126_49, s126_50, sx_push, tf, List.length_cons, List.length_nil, Option.some.injEq, exists_eq_left', Nat.reduceAdd, Nat.reduceLeDiff, true_and, and_true, true_or, or_true, Int.zero_add, Nat.zero_le, eq_self, ne_eq, not_true_eq_false, not_false_eq_true, false_implies, true_implies, implies_true, b2i_0, b2i_1, b2i_01, up_sc, sc_at, sc_sc, ite_true, ite_false, if_true, if_false, Nat.reduceEqDiff, reduceIte, tp ho, oq o, x49 ho hr]
    repeat' (first | intro _ | refine And.intro ?_ ?_)
    all_goals first | omega | (exfalso; simp_all [up1]; done) | skip
    refine main _ ?_ ?_ ?_ ?_ ?_ ?_ ?_ ?_
    · exact fr_sc (fr_sc (fr_sc (fr_sc fr_rfl (by omega) (by omega)) (by omega) (by omega)) (by omega) (by omega)) (by omega) (by omega)
    all_goals simp [sc_at, up1, e]
end C9
