/-! child: the k-th of those left -/
theorem cnt_set : ∀ (A : List Int) (c : Int → Bool), A.Nodup → (∀ q, 0 ≤ q → q < 40 → (q ∈ A ↔ c q = true)) → (∀ q ∈ A, 0 ≤ q ∧ q < 40) → cnt c 40 0 0 = A.length := by
  intro A
  induction A with
  | nil =>
    intro c _ h _
    rw [cnt_zero 40 0 0 (fun q a b => by
      have := h q a (by omega)
      cases e : c q with
      | false => rfl
      | true => exact absurd (this.mpr e) List.not_mem_nil)]
    rfl
  | cons a A ih =>
    intro c nd h hr
    have nd' := List.nodup_cons.mp nd
    have ra := hr a List.mem_cons_self
    have e := ih (fun q => c q && decide (q ≠ a)) nd'.2 (fun q q0 q1 => by
      rw [Bool.and_eq_true, decide_eq_true_eq, ← h q q0 q1]
      constructor
      · intro z; exact ⟨List.mem_cons_of_mem _ z, fun y => nd'.1 (y ▸ z)⟩
      · rintro ⟨z1, z2⟩
        rcases List.mem_cons.mp z1 with y | y
        · exact absurd y z2
        · exact y) (fun q hq => hr q (List.mem_cons_of_mem _ hq))
    rw [cnt_one (c := fun q => c q && decide (q ≠ a)) (d := c) (r := a) (by simp) ((h a ra.1 ra.2).mp List.mem_cons_self) 40 0 0 ra.1 (by omega) (fun q _ _ z => by simp [z]), e]
    simp
theorem nthL_at : ∀ (A B : List Int) (p : Int), nthL (A ++ p :: B) A.length = p := by
  intro A
  induction A with
  | nil => intro B p; exact if_pos rfl
  | cons a A ih =>
    intro B p
    show (if (((a :: A).length : Nat) : Int) = 0 then a else nthL (A ++ p :: B) ((((a :: A).length : Nat) : Int) - 1)) = p
    rw [List.length_cons, if_neg (by omega), show (((A.length + 1 : Nat) : Int) - 1) = (A.length : Int) by omega]
    exact ih B p
theorem nthL_no : ∀ (A : List Int) (k : Int), (A.length : Int) ≤ k → nthL A k = -1 := by
  intro A
  induction A with
  | nil => intro k _; rfl
  | cons a A ih =>
    intro k h
    rw [List.length_cons] at h
    show (if k = 0 then a else nthL A (k - 1)) = -1
    rw [if_neg (by omega)]
    exact ih _ (by omega)
theorem fnd_some {c : Int → Bool} {r : Int} (hr : c r = true) : ∀ (k : Nat) (p : Int), 0 ≤ p → p ≤ r → r < p + k → fnd c k p ≠ -1 := by
  intro k
  induction k with
  | zero => intro p _ h1 h2; omega
  | succ k ih =>
    intro p p0 h1 h2
    unfold fnd
    by_cases e : c p = true
    · rw [if_pos e]; omega
    · rw [if_neg e]
      refine ih (p + 1) (by omega) ?_ (by omega)
      by_cases e2 : p = r
      · rw [e2] at e; exact absurd hr e
      · omega
/-- q is ahead of p -/
def ahd (f : Int → Int) (p q : Int) : Prop := f (160 + p) < f (160 + q) ∨ (f (160 + q) = f (160 + p) ∧ q < p)
theorem kq_pw {f : Int → Int} {g lv : Int} : ∀ (k : Nat) (p : Int), (kq f g lv k p).Pairwise (fun a b => ahd f b a) := by
  intro k
  induction k with
  | zero => intro p; exact List.Pairwise.nil
  | succ k ih =>
    intro p
    unfold kq
    split
    · rename_i e
      refine List.pairwise_cons.mpr ⟨fun b hb => ?_, ih _⟩
      have z := kq_mem _ _ hb
      exact Or.inr ⟨by omega, by omega⟩
    · exact ih _
theorem kl_pw {f : Int → Int} {g : Int} : ∀ (m : Nat) (lv : Int), (kl f g m lv).Pairwise (fun a b => ahd f b a) := by
  intro m
  induction m with
  | zero => intro lv; exact List.Pairwise.nil
  | succ m ih =>
    intro lv
    unfold kl
    refine List.pairwise_append.mpr ⟨kq_pw _ _, ih _, fun a ha b hb => ?_⟩
    have z := kq_mem _ _ ha
    have y := kl_mem _ _ hb
    exact Or.inl (by omega)
theorem rank_at {f : Int → Int} {g p : Int} (ht : tree f) {A B : List Int} (h : kids f g = A ++ p :: B) : cnt (fun q => decide ((f q = 1 ∧ f (160 + q) < 10 ∧ f (200 + q) = g) ∧ (f (160 + p) < f (160 + q) ∨ (f (160 + q) = f (160 + p) ∧ q < p)))) 40 0 0 = A.length := by
  have pw : (A ++ p :: B).Pairwise (fun a b => ahd f b a) := h ▸ kl_pw 10 9
  have nd : (A ++ p :: B).Nodup := h ▸ kids_nd
  have pw' := List.pairwise_append.mp pw
  have nd' := List.nodup_append.mp nd
  have pc := List.pairwise_cons.mp pw'.2.1
  refine cnt_set A _ nd'.1 (fun q q0 q1 => ?_) (fun q hq => (kids_mem (h ▸ List.mem_append_left _ hq)).1)
  rw [decide_eq_true_eq]
  constructor
  · intro hq
    have z := kids_mem (h ▸ List.mem_append_left (p :: B) hq)
    exact ⟨⟨z.2.1, by omega, z.2.2.2.2⟩, pw'.2.2 q hq p List.mem_cons_self⟩
  · rintro ⟨⟨z1, z2, z3⟩, z4⟩
    have t := ht q q0 q1 z1
    have hq : q ∈ A ++ p :: B := h ▸ kids_in q0 q1 ⟨z1, z3⟩ t.1 (by omega)
    rcases List.mem_append.mp hq with y | y
    · exact y
    · exfalso
      rcases List.mem_cons.mp y with y | y
      · subst y; omega
      · have := pc.1 q y
        unfold ahd at this
        omega
theorem child_nth {f : Int → Int} (ht : tree f) {g kk : Int} : childF f g kk 40 0 = (if 0 ≤ kk then nthL (kids f g) kk else -1) := by
  unfold childF
  by_cases k0 : 0 ≤ kk
  · rw [if_pos k0]
    by_cases e : kk.toNat < (kids f g).length
    · have hs : kids f g = (kids f g).take kk.toNat ++ (kids f g)[kk.toNat] :: (kids f g).drop (kk.toNat + 1) := by
        rw [List.getElem_cons_drop, List.take_append_drop]
      have hl : ((kids f g).take kk.toNat).length = kk.toNat := by rw [List.length_take]; omega
      generalize (kids f g).take kk.toNat = A at *
      generalize (kids f g)[kk.toNat] = p at *
      generalize (kids f g).drop (kk.toNat + 1) = B at *
      have hp := kids_mem (f := f) (g := g) (q := p) (by rw [hs]; exact List.mem_append_right _ List.mem_cons_self)
      have hc := rank_at ht hs
      have hn : nthL (kids f g) kk = p := by
        rw [hs, show kk = (A.length : Int) by omega]; exact nthL_at A B p
      rw [hn]
      have cp : (fun p => decide ((f p = 1 ∧ f (160 + p) < 10 ∧ f (200 + p) = g) ∧ cnt (fun q => decide ((f q = 1 ∧ f (160 + q) < 10 ∧ f (200 + q) = g) ∧ (f (160 + p) < f (160 + q) ∨ (f (160 + q) = f (160 + p) ∧ q < p)))) 40 0 0 = kk)) p = true := by
        rw [decide_eq_true_eq]
        exact ⟨⟨hp.2.1, by omega, hp.2.2.2.2⟩, by rw [hc]; omega⟩
      rcases fnd_in (fun p => decide ((f p = 1 ∧ f (160 + p) < 10 ∧ f (200 + p) = g) ∧ cnt (fun q => decide ((f q = 1 ∧ f (160 + q) < 10 ∧ f (200 + q) = g) ∧ (f (160 + p) < f (160 + q) ∨ (f (160 + q) = f (160 + p) ∧ q < p)))) 40 0 0 = kk)) 40 0 with z | ⟨z1, z2, z3⟩
      · exact absurd z (fnd_some cp 40 0 (by omega) hp.1.1 (by omega))
      · generalize fnd (fun p => decide ((f p = 1 ∧ f (160 + p) < 10 ∧ f (200 + p) = g) ∧ cnt (fun q => decide ((f q = 1 ∧ f (160 + q) < 10 ∧ f (200 + q) = g) ∧ (f (160 + p) < f (160 + q) ∨ (f (160 + q) = f (160 + p) ∧ q < p)))) 40 0 0 = kk)) 40 0 = r at *
        rw [decide_eq_true_eq] at z3
        have t := ht r z1 (by omega) z3.1.1
        have hr : r ∈ kids f g := kids_in z1 (by omega) ⟨z3.1.1, z3.1.2.2⟩ t.1 (by omega)
        obtain ⟨A', B', hs'⟩ := List.append_of_mem hr
        have hc' := rank_at ht hs'
        rw [z3.2] at hc'
        have : nthL (kids f g) kk = r := by rw [hs', hc']; exact nthL_at A' B' r
        rw [← this, hn]
    · rw [nthL_no _ _ (by omega)]
      refine fnd_none 40 0 (fun r r0 r1 => ?_)
      rw [decide_eq_false_iff_not]
      rintro ⟨⟨z1, z2, z3⟩, z4⟩
      have t := ht r r0 (by omega) z1
      have hr : r ∈ kids f g := kids_in r0 (by omega) ⟨z1, z3⟩ t.1 (by omega)
      obtain ⟨A', B', hs'⟩ := List.append_of_mem hr
      have hc' := rank_at ht hs'
      rw [z4] at hc'
      have : (kids f g).length = A'.length + (B'.length + 1) := by rw [hs', List.length_append, List.length_cons]
      omega
  · rw [if_neg k0]
    refine fnd_none 40 0 (fun r r0 r1 => ?_)
    rw [decide_eq_false_iff_not]
    rintro ⟨-, z⟩
    have := cnt_in (fun q => decide ((f q = 1 ∧ f (160 + q) < 10 ∧ f (200 + q) = g) ∧ (f (160 + r) < f (160 + q) ∨ (f (160 + q) = f (160 + r) ∧ q < r)))) 40 0 0
    omega
section CD
variable {n : Nat} {c : Int} {σ : sxS} {K : Option sxV → sxT → sxS → Prop}
theorem cl9 {p k : Int} (hi : inI k) : call2 n c 59 214 [some (vR 1), some (vI p), some (vI k)] [some (vR 149), some (vI p), some (vI k), none, none, none] := call2_rd (fun σ => if (0 ≤ p ∧ p < 40) ∧ σ 150 p = 1 then childF (σ 150) p k 40 0 else -1) (fun σ K h => by
  have h' := h
  obtain ⟨hP, hO, hM, hH, hT, hR, hS, hF, hQ, hV, hI, hG, hW⟩ := h'
  refine Rn_iff fun K hK => ?_
  by_cases e : (0 ≤ p ∧ p < 40) ∧ σ 150 p = 1
  · rw [if_pos e, child_nth hO.1.2.2.1] at hK
    by_cases k0 : 0 ≤ k
    · rw [if_pos k0] at hK
      simp only [s59_0, s59_1, s59_4, s59_5, s59_8, s59_11, s59_12, s59_15, s59_16, s59_19, s59_20, s59_21, s59_24, s59_27, s59_28, sx_push, tf, List.length_cons, List.length_nil, Option.some.injEq, exists_eq_left', Nat.reduceAdd, Nat.reduceLeDiff, true_and, and_true, true_or, or_true, Int.zero_add, Nat.zero_le, eq_self, ne_eq, not_true_eq_false, not_false_eq_true, false_implies, true_implies, implies_true, b2i_0, b2i_1, b2i_01, up_sc, sc_at, sc_sc, ite_true, ite_false, if_true, if_false, Nat.reduceEqDiff, reduceIte, x49 isP7 hP.1.1, x60 isP7 hP.1.1 hP.1.2.1 hi k0]
      generalize nthL (kids (σ 150) p) k = r at *
      repeat' (first | intro _ | refine And.intro ?_ ?_)
      all_goals first | exact hK | omega
    · rw [if_neg k0] at hK
      simp only [s59_0, s59_1, s59_4, s59_5, s59_8, s59_11, s59_12, s59_27, s59_28, sx_push, tf, List.length_cons, List.length_nil, Option.some.injEq, exists_eq_left', Nat.reduceAdd, Nat.reduceLeDiff, true_and, and_true, true_or, or_true, Int.zero_add, Nat.zero_le, eq_self, ne_eq, not_true_eq_false, not_false_eq_true, false_implies, true_implies, implies_true, b2i_0, b2i_1, b2i_01, up_sc, sc_at, sc_sc, ite_true, ite_false, if_true, if_false, Nat.reduceEqDiff, reduceIte, x49 isP7 hP.1.1]
      repeat' (first | intro _ | refine And.intro ?_ ?_)
      all_goals first | exact hK | omega
  · rw [if_neg e] at hK
    simp only [s59_0, s59_1, s59_4, s59_5, s59_8, s59_11, s59_12, s59_27, s59_28, sx_push, tf, List.length_cons, List.length_nil, Option.some.injEq, exists_eq_left', Nat.reduceAdd, Nat.reduceLeDiff, true_and, and_true, true_or, or_true, Int.zero_add, Nat.zero_le, eq_self, ne_eq, not_true_eq_false, not_false_eq_true, false_implies, true_implies, implies_true, b2i_0, b2i_1, b2i_01, up_sc, sc_at, sc_sc, ite_true, ite_false, if_true, if_false, Nat.reduceEqDiff, reduceIte, x49 isP7 hP.1.1]
    repeat' (first | intro _ | refine And.intro ?_ ?_)
    all_goals first | exact hK | omega) (fun σ K h => x214)
end CD
