/-! the reference: one goes, the whole of it -/
theorem nd_len : ∀ (k : Nat) (L : List Int), L.Nodup → (∀ q ∈ L, 0 ≤ q ∧ q < (k : Int)) → L.length ≤ k := by
  intro k
  induction k with
  | zero =>
    intro L _ h
    cases L with
    | nil => exact Nat.le_refl _
    | cons q L => have := h q List.mem_cons_self; exfalso; simp at this; omega
  | succ k ih =>
    intro L hn h
    have h1 := ih (L.erase (k : Int)) (hn.erase _) (fun q hq => by
      have h2 := (hn.mem_erase_iff).mp hq
      have h3 := h q h2.2
      have h4 := h2.1
      omega)
    by_cases hm : (k : Int) ∈ L
    · have := List.length_erase_of_mem hm
      omega
    · rw [List.erase_of_not_mem hm] at h1
      omega
theorem kq_mem {f : Int → Int} {g lv q : Int} : ∀ (k : Nat) (p : Int), q ∈ kq f g lv k p → p ≤ q ∧ q < p + k ∧ f q = 1 ∧ f (160 + q) = lv ∧ f (200 + q) = g := by
  intro k
  induction k with
  | zero => intro p h; exact absurd h List.not_mem_nil
  | succ k ih =>
    intro p h
    unfold kq at h
    split at h
    · rename_i c
      rcases List.mem_cons.mp h with rfl | h
      · exact ⟨by omega, by omega, c⟩
      · obtain ⟨a, b, c⟩ := ih _ h; exact ⟨by omega, by omega, c⟩
    · obtain ⟨a, b, c⟩ := ih _ h; exact ⟨by omega, by omega, c⟩
theorem kq_nd {f : Int → Int} {g lv : Int} : ∀ (k : Nat) (p : Int), (kq f g lv k p).Nodup := by
  intro k
  induction k with
  | zero => intro p; exact List.nodup_nil
  | succ k ih =>
    intro p
    unfold kq
    split
    · exact List.nodup_cons.mpr ⟨fun h => by have := kq_mem _ _ h; omega, ih _⟩
    · exact ih _
theorem kl_mem {f : Int → Int} {g q : Int} : ∀ (m : Nat) (lv : Int), q ∈ kl f g m lv → (0 ≤ q ∧ q < 40) ∧ f q = 1 ∧ f (160 + q) ≤ lv ∧ lv - m < f (160 + q) ∧ f (200 + q) = g := by
  intro m
  induction m with
  | zero => intro lv h; exact absurd h List.not_mem_nil
  | succ m ih =>
    intro lv h
    unfold kl at h
    rcases List.mem_append.mp h with h | h
    · obtain ⟨a, b, c, d, e⟩ := kq_mem _ _ h
      exact ⟨⟨a, by omega⟩, c, by omega, by omega, e⟩
    · obtain ⟨a, b, c, d, e⟩ := ih _ h
      exact ⟨a, b, by omega, by omega, e⟩
theorem kl_nd {f : Int → Int} {g : Int} : ∀ (m : Nat) (lv : Int), (kl f g m lv).Nodup := by
  intro m
  induction m with
  | zero => intro lv; exact List.nodup_nil
  | succ m ih =>
    intro lv
    unfold kl
    refine List.nodup_append.mpr ⟨kq_nd _ _, ih _, fun a ha b hb e => ?_⟩
    have h1 := kq_mem _ _ ha
    have h2 := kl_mem _ _ hb
    rw [e] at h1
    omega
theorem kids_mem {f : Int → Int} {g q : Int} (h : q ∈ kids f g) : (0 ≤ q ∧ q < 40) ∧ f q = 1 ∧ 0 ≤ f (160 + q) ∧ f (160 + q) ≤ 9 ∧ f (200 + q) = g := by
  obtain ⟨a, b, c, d, e⟩ := kl_mem 10 9 h
  exact ⟨a, b, by omega, c, e⟩
theorem kids_nd {f : Int → Int} {g : Int} : (kids f g).Nodup := kl_nd 10 9
theorem kids_len {f : Int → Int} {g : Int} : (kids f g).length ≤ 40 := nd_len 40 _ kids_nd (fun q hq => (kids_mem hq).1)
theorem markF_n {f : Int → Int} : ∀ (L : List Int) (f : Int → Int) (j : Int), (j < 200 ∨ 240 ≤ j) → (∀ q ∈ L, 0 ≤ q ∧ q < 40) → markF f L j = f j := by
  intro L
  induction L with
  | nil => intro f j _ _; rfl
  | cons q L ih =>
    intro f j hj hL
    have := hL q List.mem_cons_self
    show markF (up1 f (200 + q) 1000000) L j = f j
    rw [ih _ j hj (fun z hz => hL z (List.mem_cons_of_mem _ hz)), up1_n (by omega)]
/-- the highest level has one, if there is any -/
def oneRoot (f : Int → Int) : Prop := (∀ p q, 0 ≤ p → p < 40 → 0 ≤ q → q < 40 → f p = 1 → f q = 1 → f (160 + p) = 10 → f (160 + q) = 10 → p = q) ∧ ∀ p, 0 ≤ p → p < 40 → f p = 1 → ∃ r, 0 ≤ r ∧ r < 40 ∧ f r = 1 ∧ f (160 + r) = 10
section M12
variable {n : Nat} {K : Option sxV → sxT → sxS → Prop}
theorem x254 {σ : sxS} {g : Int} (g0 : 0 ≤ g) (g1 : g < 40) (hg : σ 150 g = 1) (hw : wfc (σ 150)) (ht : tree (σ 150)) (h1r : oneRoot (σ 150)) (hK : ∀ σ' : sxS, σ' 150 = goesF (σ 150) g → (∀ k, k ≠ 150 → k ≠ 159 → σ' k = σ k) → K none (T0 n) σ') : Rn 254 0 [some (vR 149), some (vI g), none, none, none] [] (T0 n) σ K := by
  have hwr : ∀ wr : Int, wr = (if σ 150 (160 + g) = 10 then 1 else 0) → Rn 254 39 [some (vR 149), some (vI g), some (vI wr), some (vI 0), some (vI (left (up1 (σ 150) g 0) g))] [] (T0 n) (sc σ 150 (up1 (σ 150) g 0)) K := by
    intro wr hwr
    have e150 : sc σ 150 (up1 (σ 150) g 0) 150 = up1 (σ 150) g 0 := by simp only [sc_at, reduceIte]
    have main := x254a (n := n) (K := K) (g := g) (wr := wr) g0 g1 _ (sc σ 150 (up1 (σ 150) g 0)) [] rfl (by rw [e150]; simpa using kids_len) (fun j hj => absurd hj (by simp)) (fun q q0 q1 hq => ?_) (fun σ' s1 s2 s3 => ?_)
    · rw [e150] at main
      exact main
    · rw [e150] at hq ⊢
      by_cases e : q = g
      · subst e; rw [up1_s] at hq; cases hq
      · rw [up1_n e] at hq
        rw [up1_n (by omega)]
        exact (ht q q0 q1 hq).1
    · rw [e150] at s1 s2 ⊢
      rw [List.nil_append] at s2 ⊢
      have hfr : ∀ k, k ≠ 150 → k ≠ 159 → σ' k = σ k := fun k k1 k2 => by rw [s3 k k1 k2]; simp only [sc_at, k1, reduceIte]
      generalize hL : kids (up1 (σ 150) g 0) g = L at s1 s2 ⊢
      have hmem : ∀ q ∈ L, (0 ≤ q ∧ q < 40) ∧ q ≠ g ∧ σ 150 q = 1 ∧ 0 ≤ σ 150 (160 + q) ∧ σ 150 (160 + q) ≤ 9 := by
        intro q hq
        rw [← hL] at hq
        obtain ⟨a, b, c, d, -⟩ := kids_mem hq
        have hqg : q ≠ g := fun e => by rw [e, up1_s] at b; cases b
        rw [up1_n hqg] at b
        rw [up1_n (by omega)] at c d
        exact ⟨a, hqg, b, c, d⟩
      have hmk : ∀ j, (j < 200 ∨ 240 ≤ j) → j ≠ g → σ' 150 j = σ 150 j := fun j hj hjg => by rw [s1, markF_n (f := σ 150) L _ j hj (fun q hq => (hmem q hq).1), up1_n hjg]
      have hw' : wfc (σ' 150) := by
        intro q q0 q1
        have := hw q q0 q1
        rw [hmk _ (by omega) (by omega), hmk _ (by omega) (by omega), hmk _ (by omega) (by omega)]
        exact this
      have hnd : L.Nodup := by rw [← hL]; exact kids_nd
      have hok : lstOk (σ' 150) L := ⟨hnd, fun q hq => by
        obtain ⟨a, b, c, d, e⟩ := hmem q hq
        rw [hmk _ (by omega) b, hmk _ (by omega) (by omega)]
        exact ⟨a, c, d, e⟩⟩
      have hlen : L.length ≤ 40 := by rw [← hL]; exact kids_len
      have fin : ∀ h : Int → Int, h = goesF (σ 150) g → K none (T0 n) (sc σ' 150 h) := fun h hh => hK _ (by simp only [sc_at, reduceIte]; exact hh) (fun k k1 k2 => by simp only [sc_at, k1, reduceIte]; exact hfr k k1 k2)
      have hgo : goesF (σ 150) g = goesL (σ' 150) wr L := by unfold goesF; rw [hL, ← s1, ← hwr]
      simp only [s254_79, s254_80, sx_push, tf, List.length_cons, List.length_nil, Option.some.injEq, exists_eq_left', Nat.reduceAdd, Nat.reduceLeDiff, true_and, and_true, true_or, or_true, Int.zero_add, Nat.zero_le, eq_self, ne_eq, not_true_eq_false, not_false_eq_true, false_implies, true_implies, implies_true, b2i_0, b2i_1, b2i_01, up_sc, sc_at, sc_sc, ite_true, ite_false, if_true, if_false, Nat.reduceEqDiff, reduceIte]
      by_cases hroot : σ 150 (160 + g) = 10
      · rw [if_pos hroot] at hwr
        cases L with
        | nil =>
          have := fin (σ' 150) (by rw [hgo]; rfl)
          rw [sc_id] at this
          rw [s254_82]
          simp only [s254_84, s254_85, s254_88, s254_90, s254_93, s254_94, s254_97, s254_98, s254_99, s254_102, s254_104, s254_105, s254_108, s254_111, s254_112, s254_115, s254_118, s254_119, s254_122, s254_123, s254_124, s254_125, s254_127, s254_128, s254_129, s254_132, s254_135, s254_136, s254_139, s254_140, s254_141, s254_142, s254_143, s254_144, s254_147, s254_150, sx_push, tf, List.length_cons, List.length_nil, Option.some.injEq, exists_eq_left', Nat.reduceAdd, Nat.reduceLeDiff, true_and, and_true, true_or, or_true, Int.zero_add, Nat.zero_le, eq_self, ne_eq, not_true_eq_false, not_false_eq_true, false_implies, true_implies, implies_true, b2i_0, b2i_1, b2i_01, up_sc, sc_at, sc_sc, ite_true, ite_false, if_true, if_false, Nat.reduceEqDiff, reduceIte]
          repeat' (first | intro _ | refine And.intro ?_ ?_)
          all_goals first | exact this | omega | (exfalso; simp at *; done) | (exfalso; simp at *; omega)
        | cons q R =>
          obtain ⟨⟨q0, q1⟩, qg, q2, q3, q4⟩ := hmem q List.mem_cons_self
          have hq0 := s2 0 (by simp)
          simp only [Int.natCast_zero, List.getElem_cons_zero] at hq0
          have nd := List.nodup_cons.mp hnd
          have hge : goesL (σ' 150) wr (q :: R) = risesF (up1 (up1 (σ' 150) (160 + q) 10) (200 + q) (-1)) R := by rw [goesL, if_pos hwr]
          have go := x254b (n := n) (K := K) (g := g) (wr := wr) (m := ((q :: R).length : Int)) q0 q1 R (sc σ' 150 (up1 (up1 (σ' 150) (160 + q) 10) (200 + q) (-1))) 1 (by omega) (by simp; omega) (by omega) (Or.inl (by omega)) (fun j hj => ?_) ?_ ⟨nd.2, fun z hz => ?_⟩ nd.1 ?_ ?_ ?_
          · subst hwr
            rw [s254_82]
            simp only [s254_84, s254_85, s254_88, s254_90, s254_93, s254_94, s254_111, s254_112, s254_115, s254_118, s254_119, s254_122, s254_123, s254_124, s254_125, s254_127, s254_128, s254_129, s254_132, s254_135, s254_136, s254_139, s254_140, s254_141, s254_142, s254_143, s254_144, s254_147, s254_150, sx_push, tf, List.length_cons, List.length_nil, Option.some.injEq, exists_eq_left', Nat.reduceAdd, Nat.reduceLeDiff, true_and, and_true, true_or, or_true, Int.zero_add, Nat.zero_le, eq_self, ne_eq, not_true_eq_false, not_false_eq_true, false_implies, true_implies, implies_true, b2i_0, b2i_1, b2i_01, up_sc, sc_at, sc_sc, ite_true, ite_false, if_true, if_false, Nat.reduceEqDiff, reduceIte, hq0]
            have hl : (0 : Int) < ((q :: R).length : Int) := by rw [List.length_cons]; omega
            repeat' (first | intro _ | refine And.intro ?_ ?_)
            all_goals first | omega | exact go
          · have := s2 (j + 1) (by simp; omega)
            simp only [List.getElem_cons_succ] at this
            simp only [sc_at, Nat.reduceEqDiff, reduceIte]
            rw [← this]
            congr 1
            omega
          · simp only [sc_at, reduceIte]
            exact wfc_up (wfc_up hw' (by omega)) (by omega)
          · simp only [sc_at, reduceIte]
            obtain ⟨a, b, c, d⟩ := hok.2 z (List.mem_cons_of_mem _ hz)
            have hzq : z ≠ q := fun y => nd.1 (by rw [← y]; exact hz)
            rw [up1_n (by omega), up1_n (by omega), up1_n (by omega), up1_n (by omega)]
            exact ⟨a, b, c, d⟩
          · simp only [sc_at, reduceIte]
            rw [up1_n (by omega), up1_n (by omega)]
            exact (hok.2 q List.mem_cons_self).2.1
          · simp only [sc_at, reduceIte]
            rw [up1_n (by omega), up1_s]
            omega
          · simp only [sc_at, reduceIte, sc_sc]
            exact fin _ (by rw [hgo, hge])
      · rw [if_neg hroot] at hwr
        obtain ⟨r, r0, r1, r2, r3⟩ := h1r.2 g g0 g1 hg
        have hrg : r ≠ g := fun e => hroot (by rw [← e]; exact r3)
        refine x254b (n := n) (K := K) (g := g) (wr := wr) (m := (L.length : Int)) r0 r1 L σ' 0 (by omega) (by omega) (by omega) (Or.inr hwr) (fun j hj => ?_) hw' hok (fun hr => ?_) ?_ ?_ ?_
        · rw [Int.zero_add]; exact s2 j hj
        · have := hmem r hr; omega
        · rw [hmk _ (by omega) hrg]; exact r2
        · rw [hmk _ (by omega) (by omega), r3]; omega
        · refine fin _ ?_
          rw [hgo]
          cases L with
          | nil => rfl
          | cons q R => rw [goesL, if_neg (by omega)]
  simp only [s254_0, s254_1, s254_4, s254_7, s254_8, s254_9, s254_10, s254_12, s254_15, s254_16, s254_19, s254_20, s254_21, s254_22, s254_25, s254_26, s254_27, s254_28, s254_29, s254_30, s254_31, s254_32, s254_33, s254_34, s254_37, sx_push, tf, List.length_cons, List.length_nil, Option.some.injEq, exists_eq_left', Nat.reduceAdd, Nat.reduceLeDiff, true_and, and_true, true_or, or_true, Int.zero_add, Nat.zero_le, eq_self, ne_eq, not_true_eq_false, not_false_eq_true, false_implies, true_implies, implies_true, b2i_0, b2i_1, b2i_01, up_sc, sc_at, sc_sc, ite_true, ite_false, if_true, if_false, Nat.reduceEqDiff, reduceIte, x255]
  repeat' (first | intro _ | refine And.intro ?_ ?_)
  all_goals first | omega | (exact hwr 1 (by rw [if_pos (by assumption)])) | (exact hwr 0 (by rw [if_neg (by assumption)]))
end M12
