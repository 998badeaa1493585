/-! searches: the reference -/
def seekF (f : Int → Int) (x y z lg : Int) : Int × Int × List (Int × Int × Int × Int) := srF f x y z lg 10 10 (fun p => if p = rootF f 40 0 then 1 else 0) (rootF f 40 0) 1 []
theorem gI_w {f st : Int → Int} {k k' : Int} (h : gI f k st) (hk : k' ≤ k) : gI f k' st := fun p a b => by
  rcases h p a b with z | ⟨z1, z2, z3⟩
  · exact Or.inl z
  · exact Or.inr ⟨z1, z2, by omega⟩
theorem gI_z {f st : Int → Int} {k : Int} (h : gI f k st) : ∀ q, 0 ≤ q → q < 40 → f (160 + q) = k - 1 → st q = 0 := fun q a b e => by
  rcases h q a b with z | ⟨z1, z2, z3⟩
  · exact z
  · omega
theorem srF_spec (f : Int → Int) (ht : tree f) (x y z lg : Int) : ∀ (m : Nat) (k : Int) (st : Int → Int) (b c : Int) (R : List (Int × Int × Int × Int)), k = m → k ≤ 10 → gI f k st → (0 ≤ b ∧ b < 40 ∧ f b = 1) → R.length ≤ c2 st → okR R → 0 ≤ c → ((0 ≤ (srF f x y z lg m k st b c R).1 ∧ (srF f x y z lg m k st b c R).1 < 40) ∧ f (srF f x y z lg m k st b c R).1 = 1) ∧ okR (srF f x y z lg m k st b c R).2.2 ∧ ((srF f x y z lg m k st b c R).2.2.length : Int) ≤ 40 := by
  intro m
  induction m with
  | zero =>
    intro k st b c R _ _ _ hb hR ho _
    have := c2_le st
    exact ⟨⟨⟨hb.1, hb.2.1⟩, hb.2.2⟩, ho, by show (R.length : Int) ≤ 40; omega⟩
  | succ m ih =>
    intro k st b c R hk k1 hg hb hR ho hc
    unfold srF
    have ls := lkF_spec f ht x y z lg k (by omega) k1 40 0 st b c (by omega) (by omega) (gI_w hg (by omega)) (fun q a b e => gI_z hg q a b e) hb
    generalize lkF f x y z lg k 40 0 st b c = L at *
    have os := of_spec f x y z lg k L.2.1 (k - 1) 40 0 L.1 (by omega) (by omega) ls.1
    generalize ofS f x y z lg k L.2.1 40 0 L.1 = st2 at *
    generalize ofR f x y z lg k L.2.1 40 0 L.1 = R2 at *
    refine ih (k - 1) st2 L.2.1 L.2.2 (R ++ R2) (by omega) (by omega) os.1 ls.2.1 ?_ (okR_ap ho os.2.1) (by omega)
    rw [List.length_append]
    have := ls.2.2.2
    omega
theorem gI_root {f : Int → Int} (hr : (0 ≤ rootF f 40 0 ∧ rootF f 40 0 < 40) ∧ f (rootF f 40 0) = 1 ∧ f (160 + rootF f 40 0) = 10) : gI f 10 (fun p => if p = rootF f 40 0 then 1 else 0) := fun p a b => by
  by_cases e : p = rootF f 40 0
  · exact Or.inr ⟨Or.inl (if_pos e), by rw [e]; exact hr.2.1, by rw [e]; omega⟩
  · exact Or.inl (if_neg e)
theorem seekF_spec {f : Int → Int} (hi : invF f) (x y z lg : Int) (hr : (0 ≤ rootF f 40 0 ∧ rootF f 40 0 < 40) ∧ f (rootF f 40 0) = 1 ∧ f (160 + rootF f 40 0) = 10) : ((0 ≤ (seekF f x y z lg).1 ∧ (seekF f x y z lg).1 < 40) ∧ f (seekF f x y z lg).1 = 1) ∧ okR (seekF f x y z lg).2.2 ∧ ((seekF f x y z lg).2.2.length : Int) ≤ 40 := by
  have c0 := c2_le (fun p => if p = rootF f 40 0 then 1 else 0)
  exact srF_spec f hi.2.2.1 x y z lg 10 10 _ _ 1 [] (by omega) (by omega) (gI_root hr) ⟨hr.1.1, hr.1.2, hr.2.1⟩ (by show ((0 : Nat) : Int) ≤ _; omega) trivial (by omega)
section S2
variable {n : Nat} {σ : sxS} {K : Option sxV → sxT → sxS → Prop} {f : Int → Int}
theorem x229 (hO : invF f) (hz : rtP f) {p k d b c : Int} {st : Int → Int} {R : List (Int × Int × Int × Int)} (hq : qR σ f st b c R) (p0 : 0 ≤ p) (p1 : p < 40) (k0 : 1 ≤ k) (k1 : k ≤ 10) (hR : R.length ≤ 39) (ho : okR R) (hK : ∀ σ', qF σ σ' → qR σ' f (up1 st p 2) b c (if spN f p k = 0 then R else R ++ [(p, k, d, spN f p k)]) → K none (T0 n) σ') : Rn 229 0 [some (vR 149), some (vI p), some (vI k), some (vI d), none] [] (T0 n) σ K := by
  obtain ⟨⟨q1, q2, q3, q4⟩, q5, q6, q7⟩ := hq
  have ti := tot_in ho
  have sp := spN_in f p k
  have x230' := fun K => x230n (n := n) (σ := σ) (K := K) (by rw [q1]; exact hO.1) (by rw [q1]; exact hO.2.2.1) (by rw [q1]; exact hz) (o := p) (k' := k) p0 (by omega) (by omega)
  rw [q1] at x230'
  have st2 : ∀ q, 0 ≤ q → q < 40 → up1 (σ 160) p 2 q = up1 st p 2 q := fun q a b => by
    unfold up1; split
    · rfl
    · exact q2 q a b
  by_cases e : spN f p k = 0
  · rw [if_pos e] at hK
    simp only [s229_0, s229_1, s229_2, s229_3, s229_6, s229_8, s229_9, s229_12, s229_13, s229_14, s229_15, s229_17, s229_20, sx_push, tf, List.length_cons, List.length_nil, Option.some.injEq, exists_eq_left', Nat.reduceAdd, Nat.reduceLeDiff, true_and, and_true, true_or, or_true, Int.zero_add, Nat.zero_le, eq_self, ne_eq, not_true_eq_false, not_false_eq_true, false_implies, true_implies, implies_true, b2i_0, b2i_1, b2i_01, up_sc, sc_at, sc_sc, ite_true, ite_false, if_true, if_false, Nat.reduceEqDiff, reduceIte, x230', e]
    repeat' (first | intro _ | refine And.intro ?_ ?_)
    all_goals first | omega | contradiction | skip
    refine hK _ ⟨fun k a b c => ?_, fun j hj => ?_⟩ ⟨⟨?_, fun q a b => ?_, ?_, ?_⟩, ?_, ?_, ?_⟩
    · rw [sc_at, if_neg b]
    · simp [sc_at]
    · simp [sc_at]; exact q1
    · simp only [sc_at, reduceIte]; exact st2 q a b
    · simp [sc_at]; exact q3
    · simp [sc_at]; exact q4
    · simp [sc_at]; exact q5
    · simp [sc_at]; exact q6
    · simp [sc_at]; exact q7
  · rw [if_neg e] at hK
    have u30 : ∀ v, up1 (σ 149) 30 v 29 = σ 149 29 := fun v => up1_n (by decide)
    simp only [s229_0, s229_1, s229_2, s229_3, s229_6, s229_8, s229_9, s229_12, s229_13, s229_14, s229_15, s229_17, s229_20, s229_21, s229_22, s229_25, s229_26, s229_27, s229_30, s229_31, s229_32, s229_33, s229_34, s229_37, s229_38, s229_39, s229_42, s229_43, s229_44, s229_45, s229_46, s229_47, s229_48, s229_51, s229_52, s229_53, s229_56, s229_57, s229_58, s229_59, s229_60, s229_61, s229_62, s229_65, s229_66, s229_67, s229_70, s229_71, s229_72, s229_73, s229_75, s229_76, s229_77, s229_78, s229_81, s229_82, s229_83, s229_86, s229_87, s229_88, s229_91, s229_93, s229_94, s229_97, sx_push, tf, List.length_cons, List.length_nil, Option.some.injEq, exists_eq_left', Nat.reduceAdd, Nat.reduceLeDiff, true_and, and_true, true_or, or_true, Int.zero_add, Nat.zero_le, eq_self, ne_eq, not_true_eq_false, not_false_eq_true, false_implies, true_implies, implies_true, b2i_0, b2i_1, b2i_01, up_sc, sc_at, sc_sc, ite_true, ite_false, if_true, if_false, Nat.reduceEqDiff, reduceIte, x230', q5, u30, q6]
    repeat' (first | intro _ | refine And.intro ?_ ?_)
    all_goals first | omega | contradiction | skip
    refine hK _ ⟨fun k a b c => ?_, fun j hj => ?_⟩ ⟨⟨?_, fun q a b => ?_, ?_, ?_⟩, ?_, ?_, ?_⟩
    · simp only [sc_at]; rw [if_neg a, if_neg c, if_neg b]
    · simp only [sc_at, Nat.reduceEqDiff, reduceIte]
      rw [up1_n (by omega), up1_n (by omega)]
    · simp [sc_at]; exact q1
    · simp only [sc_at, Nat.reduceEqDiff, reduceIte]; exact st2 q a b
    · simp [sc_at, up1]; exact q3
    · simp [sc_at, up1]; exact q4
    · simp [sc_at, up1]
    · simp only [sc_at, Nat.reduceEqDiff, reduceIte, up1_s, tot_ap, tot]; omega
    · simp only [sc_at, Nat.reduceEqDiff, reduceIte]
      refine rowsA_ap R 0 (rowsA_cg R 0 (fun j hj => ?_) q7) ⟨⟨?_, ?_, ?_, ?_⟩, trivial⟩
      · rw [up1_n (by omega), up1_n (by omega), up1_n (by omega), up1_n (by omega)]
      · rw [Int.zero_add, up1_n (by omega), up1_n (by omega), up1_n (by omega), up1_s]
      · rw [Int.zero_add, up1_n (by omega), up1_n (by omega), up1_s]
      · rw [Int.zero_add, up1_n (by omega), up1_s]
      · rw [Int.zero_add, up1_s]
theorem x225i (hO : invF f) (hz : rtP f) {x y z k b c : Int} (hx : in8 x) (hy : in8 y) (hz' : in8 z) (k0 : 1 ≤ k) (k1 : k ≤ 10) (hb : 0 ≤ b ∧ b < 40) : ∀ (m : Nat) (p : Int) (σ : sxS) (st : Int → Int) (R : List (Int × Int × Int × Int)), p + m = 40 → 0 ≤ p → qR σ f st b c R → gI f (k - 1) st → R.length ≤ c2 st → okR R → (∀ σ', qF σ σ' → qR σ' f (ofS f x y z 0 k b m p st) b c (R ++ ofR f x y z 0 k b m p st) → Rn 225 128 [some (vR 149), some (vI x), some (vI y), some (vI z), some (vI k), some (vI (farT f b x y z)), some (vI 40)] [] (T0 n) σ' K) → Rn 225 68 [some (vR 149), some (vI x), some (vI y), some (vI z), some (vI k), some (vI (farT f b x y z)), some (vI p)] [] (T0 n) σ K := by
  intro m
  induction m with
  | zero =>
    intro p σ st R hp p0 hq hg hR ho hK
    obtain rfl : p = 40 := by omega
    rw [s225_68]
    simp only [s225_70, s225_72, s225_75, s225_76, s225_79, s225_81, s225_82, s225_83, s225_86, s225_87, s225_89, s225_90, s225_91, s225_92, s225_95, s225_96, s225_98, s225_99, s225_100, s225_102, s225_105, s225_106, s225_108, s225_110, s225_111, s225_113, s225_114, s225_115, s225_116, s225_119, s225_122, s225_125, sx_push, tf, List.length_cons, List.length_nil, Option.some.injEq, exists_eq_left', Nat.reduceAdd, Nat.reduceLeDiff, true_and, and_true, true_or, or_true, Int.zero_add, Nat.zero_le, eq_self, ne_eq, not_true_eq_false, not_false_eq_true, false_implies, true_implies, implies_true, b2i_0, b2i_1, b2i_01, up_sc, sc_at, sc_sc, ite_true, ite_false, if_true, if_false, Nat.reduceEqDiff, reduceIte]
    have := hK σ qF_rfl (by show qR σ f st b c (R ++ []); rw [List.append_nil]; exact hq)
    repeat' (first | intro _ | refine And.intro ?_ ?_)
    all_goals first | omega | exact this
  | succ m ih =>
    intro p σ st R hp p0 hq hg hR ho hK
    have p1 : p < 40 := by omega
    have pw := pw_in (k := k) (by omega) k1
    obtain ⟨⟨q1, q2, q3, q4⟩, q5, q6, q7⟩ := hq
    have fp := farT_in hO.2.1 p0 p1 hx hy hz'
    have fb := farT_in hO.2.1 hb.1 hb.2 hx hy hz'
    have x195p := fun K => x195 (n := n) (σ := σ) (K := K) (by rw [q1]; exact hO.2.1) hx hy hz' p0 p1
    rw [q1] at x195p
    rw [s225_68]
    have hc : ofC f x y z 0 k p b = true ↔ farT f b x y z ≤ farT f p x y z - 2 ^ k.toNat := by unfold ofC; rw [if_pos rfl, decide_eq_true_eq]
    unfold ofS ofR at hK
    by_cases e : st p = 1 ∧ ofC f x y z 0 k p b = true
    · simp only [if_pos e] at hK
      have e2 := hc.mp e.2
      simp only [s225_70, s225_72, s225_75, s225_76, s225_79, s225_81, s225_82, s225_83, s225_86, s225_87, s225_89, s225_90, s225_91, s225_92, s225_95, s225_96, s225_98, s225_99, s225_100, s225_102, s225_105, s225_106, s225_108, s225_110, s225_111, s225_113, s225_114, s225_115, s225_116, s225_119, sx_push, tf, List.length_cons, List.length_nil, Option.some.injEq, exists_eq_left', Nat.reduceAdd, Nat.reduceLeDiff, true_and, and_true, true_or, or_true, Int.zero_add, Nat.zero_le, eq_self, ne_eq, not_true_eq_false, not_false_eq_true, false_implies, true_implies, implies_true, b2i_0, b2i_1, b2i_01, up_sc, sc_at, sc_sc, ite_true, ite_false, if_true, if_false, Nat.reduceEqDiff, reduceIte, q2 p p0 p1, e.1, x195p, Int.one_mul]
      repeat' (first | intro _ | refine And.intro ?_ ?_)
      all_goals first | omega | contradiction | skip
      have hl : (R.length : Int) ≤ 39 := by
        have := c2_le (up1 st p 2)
        have := c2_up (st := st) p0 p1 (by omega)
        omega
      refine x229 hO hz ⟨⟨q1, q2, q3, q4⟩, q5, q6, q7⟩ p0 p1 k0 k1 (by omega) ho (fun σ' a1 a2 => ?_)
      simp only [s225_122, s225_125, sx_push, tf, List.length_cons, List.length_nil, Option.some.injEq, exists_eq_left', Nat.reduceAdd, Nat.reduceLeDiff, true_and, and_true, true_or, or_true, Int.zero_add, Nat.zero_le, eq_self, ne_eq, not_true_eq_false, not_false_eq_true, false_implies, true_implies, implies_true, b2i_0, b2i_1, b2i_01, up_sc, sc_at, sc_sc, ite_true, ite_false, if_true, if_false, Nat.reduceEqDiff, reduceIte]
      refine ⟨by omega, ?_⟩
      have gu : gI f (k - 1) (up1 st p 2) := fun q a b => by
        by_cases e3 : q = p
        · subst e3; rw [up1_s]
          rcases hg q a b with z | z
          · omega
          · exact Or.inr ⟨Or.inr rfl, z.2⟩
        · rw [up1_n e3]; exact hg q a b
      have cu := c2_up (st := st) p0 p1 (by omega)
      by_cases e4 : spN f p k = 0
      · simp only [if_pos e4] at a2 hK
        exact ih (p + 1) σ' (up1 st p 2) R (by omega) (by omega) a2 gu (by omega) ho (fun σ2 b1 b2 => hK σ2 (qF_tr a1 b1) b2)
      · simp only [if_neg e4] at a2 hK
        refine ih (p + 1) σ' (up1 st p 2) (R ++ [(p, k, farT f p x y z, spN f p k)]) (by omega) (by omega) a2 gu ?_ (okR_ap ho ⟨spN_in f p k, trivial⟩) (fun σ2 b1 b2 => hK σ2 (qF_tr a1 b1) ?_)
        · rw [List.length_append]; simp only [List.length_cons, List.length_nil]; omega
        · rw [List.append_assoc] at b2; exact b2
    · simp only [if_neg e] at hK
      have go : Rn 225 68 [some (vR 149), some (vI x), some (vI y), some (vI z), some (vI k), some (vI (farT f b x y z)), some (vI (p + 1))] [] (T0 n) σ K := ih (p + 1) σ st R (by omega) (by omega) ⟨⟨q1, q2, q3, q4⟩, q5, q6, q7⟩ hg hR ho hK
      have e2 : ¬ (st p = 1 ∧ farT f b x y z ≤ farT f p x y z - 2 ^ k.toNat) := fun z => e ⟨z.1, hc.mpr z.2⟩
      simp only [s225_70, s225_72, s225_75, s225_76, s225_79, s225_81, s225_82, s225_83, s225_86, s225_87, s225_89, s225_90, s225_91, s225_92, s225_95, s225_96, s225_98, s225_99, s225_100, s225_102, s225_122, s225_125, sx_push, tf, List.length_cons, List.length_nil, Option.some.injEq, exists_eq_left', Nat.reduceAdd, Nat.reduceLeDiff, true_and, and_true, true_or, or_true, Int.zero_add, Nat.zero_le, eq_self, ne_eq, not_true_eq_false, not_false_eq_true, false_implies, true_implies, implies_true, b2i_0, b2i_1, b2i_01, up_sc, sc_at, sc_sc, ite_true, ite_false, if_true, if_false, Nat.reduceEqDiff, reduceIte, q2 p p0 p1, x195p, Int.one_mul]
      repeat' (first | intro _ | refine And.intro ?_ ?_)
      all_goals first | omega | exact go
theorem x225l (hO : invF f) (hz : rtP f) {x y z : Int} (hx : in8 x) (hy : in8 y) (hz' : in8 z) : ∀ (m : Nat) (k : Int) (σ : sxS) (st : Int → Int) (b c : Int) (R : List (Int × Int × Int × Int)) (u v : Option sxV), k = m → k ≤ 10 → qR σ f st b c R → gI f k st → (0 ≤ b ∧ b < 40 ∧ f b = 1) → R.length ≤ c2 st → okR R → 0 ≤ c → c + 40 * m ≤ 900 → (∀ (σ' : sxS) st' k2 u v, qF σ σ' → qR σ' f st' (srF f x y z 0 m k st b c R).1 (srF f x y z 0 m k st b c R).2.1 (srF f x y z 0 m k st b c R).2.2 → Rn 225 134 [some (vR 149), some (vI x), some (vI y), some (vI z), k2, u, v] [] (T0 n) σ' K) → Rn 225 37 [some (vR 149), some (vI x), some (vI y), some (vI z), some (vI k), u, v] [] (T0 n) σ K := by
  intro m
  induction m with
  | zero =>
    intro k σ st b c R u v hk k1 hq hg hb hR ho hc hc' hK
    rw [s225_37]
    simp only [s225_39, s225_42, sx_push, tf, List.length_cons, List.length_nil, Option.some.injEq, exists_eq_left', Nat.reduceAdd, Nat.reduceLeDiff, true_and, and_true, true_or, or_true, Int.zero_add, Nat.zero_le, eq_self, ne_eq, not_true_eq_false, not_false_eq_true, false_implies, true_implies, implies_true, b2i_0, b2i_1, b2i_01, up_sc, sc_at, sc_sc, ite_true, ite_false, if_true, if_false, Nat.reduceEqDiff, reduceIte]
    have := hK σ st (some (vI k)) u v qF_rfl hq
    repeat' (first | intro _ | refine And.intro ?_ ?_)
    all_goals first | omega | exact this
  | succ m ih =>
    intro k σ st b c R u v hk k1 hq hg hb hR ho hc hc' hK
    have ls := lkF_spec f hO.2.2.1 x y z 0 k (by omega) k1 40 0 st b c (by omega) (by omega) (gI_w hg (by omega)) (fun q a b e => gI_z hg q a b e) hb
    rw [s225_37]
    simp only [s225_39, s225_42, s225_43, s225_45, s225_46, s225_47, s225_48, s225_49, sx_push, tf, List.length_cons, List.length_nil, Option.some.injEq, exists_eq_left', Nat.reduceAdd, Nat.reduceLeDiff, true_and, and_true, true_or, or_true, Int.zero_add, Nat.zero_le, eq_self, ne_eq, not_true_eq_false, not_false_eq_true, false_implies, true_implies, implies_true, b2i_0, b2i_1, b2i_01, up_sc, sc_at, sc_sc, ite_true, ite_false, if_true, if_false, Nat.reduceEqDiff, reduceIte]
    refine ⟨fun _ => by omega, fun _ => ?_⟩
    simp only [s228_0, s228_1, sx_push, tf, List.length_cons, List.length_nil, Option.some.injEq, exists_eq_left', Nat.reduceAdd, Nat.reduceLeDiff, true_and, and_true, true_or, or_true, Int.zero_add, Nat.zero_le, eq_self, ne_eq, not_true_eq_false, not_false_eq_true, false_implies, true_implies, implies_true, b2i_0, b2i_1, b2i_01, up_sc, sc_at, sc_sc, ite_true, ite_false, if_true, if_false, Nat.reduceEqDiff, reduceIte]
    refine x228l hO.1 hO.2.1 hO.2.2.1 hx hy hz' (by omega) k1 (Or.inl rfl) 40 0 σ st b c _ (by omega) (by omega) hq.1 ⟨hb.1, hb.2.1⟩ hc (by omega) (fun σ1 a1 a2 => ?_)
    have a3 := qR_G hq a1 a2
    unfold srF at hK
    generalize lkF f x y z 0 k 40 0 st b c = L at *
    have os := of_spec f x y z 0 k L.2.1 (k - 1) 40 0 L.1 (by omega) (by omega) ls.1
    have x195b := fun K => x195 (n := n) (σ := σ1) (K := K) (by rw [a2.1]; exact hO.2.1) hx hy hz' ls.2.1.1 ls.2.1.2.1
    rw [a2.1] at x195b
    simp only [s225_52, s225_53, s225_54, s225_57, s225_58, s225_59, s225_60, s225_63, s225_65, s225_66, sx_push, tf, List.length_cons, List.length_nil, Option.some.injEq, exists_eq_left', Nat.reduceAdd, Nat.reduceLeDiff, true_and, and_true, true_or, or_true, Int.zero_add, Nat.zero_le, eq_self, ne_eq, not_true_eq_false, not_false_eq_true, false_implies, true_implies, implies_true, b2i_0, b2i_1, b2i_01, up_sc, sc_at, sc_sc, ite_true, ite_false, if_true, if_false, Nat.reduceEqDiff, reduceIte, a2.2.2.1, x195b]
    refine x225i hO hz hx hy hz' (by omega) k1 ⟨ls.2.1.1, ls.2.1.2.1⟩ 40 0 σ1 L.1 R (by omega) (by omega) a3 ls.1 (by have := ls.2.2.2; omega) ho (fun σ2 b1 b2 => ?_)
    generalize ofS f x y z 0 k L.2.1 40 0 L.1 = st2 at *
    generalize ofR f x y z 0 k L.2.1 40 0 L.1 = R2 at *
    have e : k + -1 = k - 1 := by omega
    simp only [s225_128, s225_131, sx_push, tf, List.length_cons, List.length_nil, Option.some.injEq, exists_eq_left', Nat.reduceAdd, Nat.reduceLeDiff, true_and, and_true, true_or, or_true, Int.zero_add, Nat.zero_le, eq_self, ne_eq, not_true_eq_false, not_false_eq_true, false_implies, true_implies, implies_true, b2i_0, b2i_1, b2i_01, up_sc, sc_at, sc_sc, ite_true, ite_false, if_true, if_false, Nat.reduceEqDiff, reduceIte, e]
    refine ⟨by omega, ih (k - 1) σ2 st2 L.2.1 L.2.2 (R ++ R2) _ _ (by omega) (by omega) b2 os.1 ls.2.1 ?_ (okR_ap ho os.2.1) (by omega) (by omega) (fun σ' st' k2 u v d1 d2 => hK σ' st' k2 u v (qF_tr (qG_F a1) (qF_tr b1 d1)) d2)⟩
    rw [List.length_append]
    have := ls.2.2.2
    omega
theorem x225 (hO : invF (σ 150)) (hz : rtP (σ 150)) {x y z : Int} (hx : in8 x) (hy : in8 y) (hz' : in8 z) (hr : rootF (σ 150) 40 0 ≠ -1) (hK : ∀ σ', qF σ σ' → σ' 149 26 = 1 → σ' 149 27 = farT (σ 150) (seekF (σ 150) x y z 0).1 x y z → σ' 149 28 = (seekF (σ 150) x y z 0).2.1 → σ' 149 30 = (seekF (σ 150) x y z 0).2.2.length → σ' 149 29 = tot (seekF (σ 150) x y z 0).2.2 → rowsA (seekF (σ 150) x y z 0).2.2 0 (σ' 161) → K (some (vI (seekF (σ 150) x y z 0).1)) (T0 n) σ') : Rn 225 0 [some (vR 149), some (vI x), some (vI y), some (vI z), none, none, none] [] (T0 n) σ K := by
  have rn := root_n1 hO hr
  have hp : (0 ≤ x ∧ x ≤ 255) ∧ (0 ≤ y ∧ y ≤ 255) ∧ 0 ≤ z ∧ z ≤ 255 := ⟨hx, hy, hz'⟩
  have sp := seekF_spec hO x y z 0 rn
  have x226' := fun K => x226 (n := n) (σ := σ) (K := K) (a := x) (b := y) (c := z)
  rw [b2i_t hp] at x226'
  simp only [s225_0, s225_1, s225_4, s225_5, s225_8, s225_9, s225_10, s225_11, s225_14, s225_17, s225_18, s225_19, s225_20, Int.reduceToNat, Int.reducePow, Nat.reducePow, Int.reduceLE, Int.reduceLT, Int.reduceNeg, Int.reduceEq, Int.reduceNe, Int.reduceAdd, Int.reduceSub, Int.reduceMul, and_self, sx_push, tf, List.length_cons, List.length_nil, Option.some.injEq, exists_eq_left', Nat.reduceAdd, Nat.reduceLeDiff, true_and, and_true, true_or, or_true, Int.zero_add, Nat.zero_le, eq_self, ne_eq, not_true_eq_false, not_false_eq_true, false_implies, true_implies, implies_true, b2i_0, b2i_1, b2i_01, up_sc, sc_at, sc_sc, ite_true, ite_false, if_true, if_false, Nat.reduceEqDiff, reduceIte, x203, x226']
  repeat' (first | intro _ | refine And.intro ?_ ?_)
  all_goals first | omega | contradiction | skip
  refine x227 rn.1 (fun σ1 a1 a2 a3 => ?_)
  have g150 : σ1 150 = σ 150 := a1 150 (by decide) (by decide)
  simp only [s225_23, s225_24, s225_25, s225_28, s225_29, s225_30, s225_33, s225_35, sx_push, tf, List.length_cons, List.length_nil, Option.some.injEq, exists_eq_left', Nat.reduceAdd, Nat.reduceLeDiff, true_and, and_true, true_or, or_true, Int.zero_add, Nat.zero_le, eq_self, ne_eq, not_true_eq_false, not_false_eq_true, false_implies, true_implies, implies_true, b2i_0, b2i_1, b2i_01, up_sc, sc_at, sc_sc, ite_true, ite_false, if_true, if_false, Nat.reduceEqDiff, reduceIte]
  have c0 := c2_le (fun p => if p = rootF (σ 150) 40 0 then 1 else 0)
  refine x225l (f := σ 150) hO hz hx hy hz' 10 10 _ (fun p => if p = rootF (σ 150) 40 0 then 1 else 0) (rootF (σ 150) 40 0) 1 [] _ _ (by omega) (by omega) ⟨⟨?_, fun p p0 p1 => ?_, ?_, ?_⟩, ?_, ?_, trivial⟩ (gI_root rn) ⟨rn.1.1, rn.1.2, rn.2.1⟩ (by show ((0 : Nat) : Int) ≤ _; omega) trivial (by omega) (by omega) (fun σ2 st' k2 u v b1 b2 => ?_)
  · simp [sc_at]; exact g150
  · simp [sc_at]; exact a3 p p0 p1
  · simp [sc_at, up1, a2]
  · simp [sc_at, up1, a2]
  · simp [sc_at, up1]
  · simp [sc_at, up1, tot]
  · change qR σ2 (σ 150) st' (seekF (σ 150) x y z 0).1 (seekF (σ 150) x y z 0).2.1 (seekF (σ 150) x y z 0).2.2 at b2
    generalize seekF (σ 150) x y z 0 = S at *
    obtain ⟨⟨q1, q2, q3, q4⟩, q5, q6, q7⟩ := b2
    have u24 : up1 (σ2 149) 26 1 24 = σ2 149 24 := up1_n (by decide)
    have u25 : ∀ v, up1 (up1 (σ2 149) 26 1) 27 v 25 = σ2 149 25 := fun v => by rw [up1_n (by decide), up1_n (by decide)]
    have u24' : ∀ v w, up1 (up1 (up1 (σ2 149) 26 1) 27 v) 28 w 24 = σ2 149 24 := fun v w => by rw [up1_n (by decide), up1_n (by decide), up1_n (by decide)]
    have g : (sc σ2 149 (up1 (σ2 149) 26 1)) 150 = σ 150 := by simp [sc_at]; exact q1
    have x195b := fun K => x195 (n := n) (σ := sc σ2 149 (up1 (σ2 149) 26 1)) (K := K) (by rw [g]; exact hO.2.1) hx hy hz' sp.1.1.1 sp.1.1.2
    rw [g] at x195b
    simp only [s225_134, s225_135, s225_136, s225_139, s225_140, s225_141, s225_142, s225_145, s225_146, s225_147, s225_148, s225_151, s225_154, s225_155, s225_156, s225_159, s225_162, s225_163, s225_166, sx_push, tf, List.length_cons, List.length_nil, Option.some.injEq, exists_eq_left', Nat.reduceAdd, Nat.reduceLeDiff, true_and, and_true, true_or, or_true, Int.zero_add, Nat.zero_le, eq_self, ne_eq, not_true_eq_false, not_false_eq_true, false_implies, true_implies, implies_true, b2i_0, b2i_1, b2i_01, up_sc, sc_at, sc_sc, ite_true, ite_false, if_true, if_false, Nat.reduceEqDiff, reduceIte, u24, q3, x195b, u25, u24', q4]
    refine hK _ ?_ ?_ ?_ ?_ ?_ ?_ ?_
    · refine qF_tr (σ' := σ1) ⟨fun k a b c => a1 k a b, fun j hj => ?_⟩ (qF_tr (qF_tr (σ' := sc σ1 149 (up1 (up1 (σ1 149) 30 0) 29 0)) ⟨fun k a b c => ?_, fun j hj => ?_⟩ b1) ⟨fun k a b c => ?_, fun j hj => ?_⟩)
      · rw [a2, up1_n (by omega), up1_n (by omega)]
      · rw [sc_at, if_neg a]
      · simp only [sc_at, reduceIte]; rw [up1_n (by omega), up1_n (by omega)]
      · rw [sc_at, if_neg a]
      · simp only [sc_at, reduceIte]; rw [up1_n (by omega), up1_n (by omega), up1_n (by omega)]
    · simp [sc_at, up1]
    · simp [sc_at, up1]
    · simp [sc_at, up1]
    · simp [sc_at, up1]; exact q5
    · simp [sc_at, up1]; exact q6
    · simp [sc_at]; exact q7
theorem x225f {x y z : Int} (h : rootF (σ 150) 40 0 = -1 ∨ ¬ ((0 ≤ x ∧ x ≤ 255) ∧ (0 ≤ y ∧ y ≤ 255) ∧ 0 ≤ z ∧ z ≤ 255)) : Rn 225 0 [some (vR 149), some (vI x), some (vI y), some (vI z), none, none, none] [] (T0 n) σ K ↔ K (some (vI (-1))) (T0 n) σ := by
  refine Rn_iff fun K hK => ?_
  simp only [s225_0, s225_1, s225_4, s225_5, s225_8, s225_9, s225_10, s225_11, s225_14, s225_17, s225_18, sx_push, tf, List.length_cons, List.length_nil, Option.some.injEq, exists_eq_left', Nat.reduceAdd, Nat.reduceLeDiff, true_and, and_true, true_or, or_true, Int.zero_add, Nat.zero_le, eq_self, ne_eq, not_true_eq_false, not_false_eq_true, false_implies, true_implies, implies_true, b2i_0, b2i_1, b2i_01, up_sc, sc_at, sc_sc, ite_true, ite_false, if_true, if_false, Nat.reduceEqDiff, reduceIte, x203, x226]
  repeat' (first | intro _ | refine And.intro ?_ ?_)
  all_goals first | exact hK | omega
end S2
