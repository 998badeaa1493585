/-! images: read back, the methods -/
def ckT (t : Int → Int) : Nat → Int → Int → Int
  | 0, _, c => c
  | m + 1, i, c => ckT t m (i + 1) ((3 * c + t i) % 251)
def nkP (g : Int → Int) (p : Int) : Prop := (g (160 + p) = 10 ∧ g (200 + p) = -1) ∨ (g (160 + p) ≠ 10 ∧ cvP g p)
def tenF (g : Int → Int) : Nat → Int → Int → Int
  | 0, _, a => a
  | k + 1, p, a => tenF g k (p + 1) (if g p = 1 ∧ g (160 + p) = 10 then a + 1 else a)
theorem tenF_ge {g : Int → Int} : ∀ (k : Nat) (p a : Int), a ≤ tenF g k p a ∧ tenF g k p a ≤ a + k ∧ ((∀ q, p ≤ q → q < p + k → ¬ (g q = 1 ∧ g (160 + q) = 10)) → tenF g k p a = a) ∧ (∀ q, p ≤ q → q < p + k → g q = 1 ∧ g (160 + q) = 10 → a + 1 ≤ tenF g k p a) ∧ (∀ q s, p ≤ q → q < s → s < p + k → g q = 1 ∧ g (160 + q) = 10 → g s = 1 ∧ g (160 + s) = 10 → a + 2 ≤ tenF g k p a) ∧ ((∀ q s, p ≤ q → q < s → s < p + k → ¬ ((g q = 1 ∧ g (160 + q) = 10) ∧ g s = 1 ∧ g (160 + s) = 10)) → tenF g k p a ≤ a + 1) := by
  intro k
  induction k with
  | zero =>
    intro p a
    refine ⟨Int.le_refl a, by show a ≤ a + (0 : Nat); omega, fun _ => rfl, fun q h1 h2 => ?_, fun q s h1 h2 h3 => ?_, fun _ => by show a ≤ a + 1; omega⟩
    · omega
    · omega
  | succ k ih =>
    intro p a
    unfold tenF
    by_cases e : g p = 1 ∧ g (160 + p) = 10
    · rw [if_pos e]
      obtain ⟨i1, i2, i3, i4, i5, i6⟩ := ih (p + 1) (a + 1)
      refine ⟨by omega, by omega, fun h => absurd e (h p (by omega) (by omega)), fun q h1 h2 _ => i1, fun q s h1 h2 h3 _ hs => ?_, fun h => ?_⟩
      · have := i4 s (by omega) (by omega) hs; omega
      · have := i3 (fun q q0 q1 z => h p q (by omega) (by omega) (by omega) ⟨e, z⟩); omega
    · rw [if_neg e]
      obtain ⟨i1, i2, i3, i4, i5, i6⟩ := ih (p + 1) a
      have ne : ∀ q, g q = 1 ∧ g (160 + q) = 10 → q ≠ p := fun q hq z => e (z ▸ hq)
      refine ⟨i1, by omega, fun h => i3 (fun q q0 q1 => h q (by omega) (by omega)), fun q h1 h2 hq => ?_, fun q s h1 h2 h3 hq hs => ?_, fun h => i6 (fun q s q0 q1 q2 => h q s (by omega) q1 (by omega))⟩
      · have := ne q hq; exact i4 q (by omega) (by omega) hq
      · have := ne q hq; exact i5 q s (by omega) h2 (by omega) hq hs
theorem cntF_ex {g : Int → Int} (h : th01 g) : ∀ (k : Nat) (p a : Int), p + k = 40 → 0 ≤ p → a < cntF g k p a ∨ ∀ q, p ≤ q → q < 40 → g q = 0 := by
  intro k
  induction k with
  | zero => intro p a hp _; exact Or.inr (fun q _ _ => by omega)
  | succ k ih =>
    intro p a hp p0
    unfold cntF
    have ci := cntF_in h k (p + 1) (a + g p) (by omega) (by omega)
    rcases h p p0 (by omega) with e | e
    · have e' := e
      rw [e', Int.add_zero] at ci
      rw [e', Int.add_zero]
      rcases ih (p + 1) a (by omega) (by omega) with z | z
      · exact Or.inl z
      · refine Or.inr (fun q q0 q1 => ?_)
        by_cases w : q = p
        · rw [w]; exact e
        · exact z q (by omega) q1
    · exact Or.inl (by omega)
theorem cntF_none {g : Int → Int} : ∀ (k : Nat) (p a : Int), p + k = 40 → (∀ q, p ≤ q → q < 40 → g q = 0) → cntF g k p a = a := by
  intro k
  induction k with
  | zero => intro p a _ _; rfl
  | succ k ih =>
    intro p a hp h
    unfold cntF
    rw [h p (by omega) (by omega), Int.add_zero]
    exact ih (p + 1) a (by omega) (fun q q0 q1 => h q (by omega) q1)
/-- class and reference ask the same of what was read -/
theorem on_iff {t g : Int → Int} {m : Nat} (ht : ∀ j, 2 ≤ j → j < 2 + 6 * (m : Int) → in8 (t j)) (h0 : rdOk t g (-1)) (hz : ∀ p, 0 ≤ p → p < 40 → g p = 0) (hs : syJ t m 0 (-1) = true) : (rdJ t m 0 (-1) = true ∧ (0 < cntF (gJ t m 0 g) 40 0 0 → rtJ t m 0 (-1) ≠ -1) ∧ (∀ q, 0 ≤ q → q < 40 → gJ t m 0 g q = 1 → q ≠ rtJ t m 0 (-1) → cvP (gJ t m 0 g) q) ∧ sepP (gJ t m 0 g)) ↔ (dfJ t m 0 g = true ∧ (∀ q, 0 ≤ q → q < 40 → gJ t m 0 g q = 1 → nkP (gJ t m 0 g) q) ∧ tenF (gJ t m 0 g) 40 0 0 = (if 0 < cntF (gJ t m 0 g) 40 0 0 then 1 else 0) ∧ sepP (gJ t m 0 g)) := by
  have tj : ∀ j, 2 + 6 * (0 : Int) ≤ j → j < 2 + 6 * ((0 : Int) + m) → in8 (t j) := fun j a b => ht j (by omega) (by omega)
  have r0 : rtI g (-1) := ⟨Or.inl rfl, fun p p0 p1 hp => by have := hz p p0 p1; omega⟩
  have okG := rdOk_J m 0 (-1) g (by omega) (by omega) h0 tj hs
  have rr := fun hd => rd_rt m 0 (-1) (-1) g (by omega) (by omega) h0 tj hs r0 hd
  have one := one_rd (t := t) m 0 (-1) (-1) g (by omega) (by omega) h0 tj hs (Or.inl rfl)
  have df := fun hsep => sep_df m 0 (-1) g (by omega) (by omega) h0 tj hs hsep
  generalize gJ t m 0 g = G at *
  generalize rtJ t m 0 (-1) = r at *
  have th : th01 G := fun p p0 p1 => by have := (okG p p0 p1).1; omega
  have tg := tenF_ge (g := G) 40 0 0
  have cx := cntF_ex th 40 0 0 (by omega) (by omega)
  constructor
  · rintro ⟨a1, a2, a3, a4⟩
    have ri := rr a1
    refine ⟨df a4, fun q q0 q1 hq => ?_, ?_, a4⟩
    · by_cases e : G (160 + q) = 10
      · have eq := ri.2 q q0 q1 hq e
        rcases ri.1 with z | ⟨z1, z2, z3, z4⟩
        · omega
        · exact Or.inl ⟨e, by rw [eq]; exact z4⟩
      · refine Or.inr ⟨e, a3 q q0 q1 hq (fun w => ?_)⟩
        rcases ri.1 with z | ⟨z1, z2, z3, z4⟩
        · omega
        · exact e (by rw [w]; exact z3)
    · have le1 := tg.2.2.2.2.2 (fun q s q0 q1 q2 z => by
        have w1 := ri.2 q q0 (by omega) z.1.1 z.1.2
        have w2 := ri.2 s (by omega) (by omega) z.2.1 z.2.2
        omega)
      by_cases c0 : 0 < cntF G 40 0 0
      · rw [if_pos c0]
        rcases ri.1 with z | ⟨z1, z2, z3, z4⟩
        · exact absurd z (a2 c0)
        · have := tg.2.2.2.1 r z1.1 (by omega) ⟨z2, z3⟩; omega
      · rw [if_neg c0]
        rcases cx with z | z
        · exact absurd z c0
        · exact tg.2.2.1 (fun q q0 q1 w => by have := z q q0 (by omega); omega)
  · rintro ⟨a1, a2, a3, a4⟩
    have uq : ∀ p q, 0 ≤ p → p < 40 → 0 ≤ q → q < 40 → G p = 1 → G q = 1 → G (160 + p) = 10 → G (160 + q) = 10 → p = q := fun p q p0 p1 q0 q1 hp hq lp lq => by
      have le1 : tenF G 40 0 0 ≤ 1 := by rw [a3]; split <;> omega
      rcases Int.lt_trichotomy p q with z | z | z
      · have := tg.2.2.2.2.1 p q p0 z (by omega) ⟨hp, lp⟩ ⟨hq, lq⟩; omega
      · exact z
      · have := tg.2.2.2.2.1 q p q0 z (by omega) ⟨hq, lq⟩ ⟨hp, lp⟩; omega
    have hd := one uq (fun p p0 p1 hp lp => by
      rcases a2 p p0 p1 hp with z | z
      · exact z.2
      · exact absurd lp z.1)
    have ri := rr hd
    refine ⟨hd, fun c0 w => ?_, fun q q0 q1 hq w => ?_, a4⟩
    · rw [if_pos c0] at a3
      have : tenF G 40 0 0 = 0 := tg.2.2.1 (fun q q0 q1 z => by have := ri.2 q q0 (by omega) z.1 z.2; omega)
      omega
    · rcases a2 q q0 q1 hq with z | z
      · exact absurd (ri.2 q q0 q1 hq z.1) w
      · exact z.2
theorem rootF_on {G : Int → Int} {r : Int} (h : rtI G r) (hl : ∀ p, 0 ≤ p → p < 40 → G p = 1 → G (160 + p) ≤ 10) : rootF G 40 0 = r := by
  rcases rootF_sp G 40 0 with ⟨z1, z2⟩ | ⟨z1, z2, z3, z4⟩
  · rw [z1]
    rcases h.1 with w | ⟨w1, w2, w3, w4⟩
    · exact w.symm
    · exact absurd ⟨w2, by omega⟩ (z2 r w1.1 (by omega))
  · have := hl _ z1 (by omega) z3
    exact h.2 _ z1 (by omega) z3 (by omega)
theorem rowOk_on {t G : Int → Int} (ok : rdOk t G 39) (h480 : 0 ≤ G 480 ∧ G 480 ≤ 2) (hn : ∀ j, 240 ≤ j → j < 480 → G j = 0) (a2 : ∀ q, 0 ≤ q → q < 40 → G q = 1 → nkP G q) (a3 : tenF G 40 0 0 = (if 0 < cntF G 40 0 0 then 1 else 0)) : rowOk G := by
  have th : th01 G := fun p p0 p1 => by have := (ok p p0 p1).1; omega
  have tg := tenF_ge (g := G) 40 0 0
  refine ⟨⟨th, fun p p0 p1 => ⟨(ok p p0 p1).2.1, (ok p p0 p1).2.2.1, (ok p p0 p1).2.2.2.1⟩, fun p p0 p1 hp => ?_, fun p q p0 p1 q0 q1 hp hq lp lq => ?_, fun p p0 p1 hp => ?_⟩, fun p p0 p1 hp lp => ?_, fun p k p0 p1 k0 k1 => ?_, h480.1, h480.2⟩
  · have lv := ((ok p p0 p1).2.2.2.2 hp).1
    refine ⟨lv.1, lv.2, fun l10 => ?_⟩
    rcases a2 p p0 p1 hp with z | z
    · omega
    · exact ⟨z.2.1.1, z.2.1.2, z.2.2.1⟩
  · have le1 : tenF G 40 0 0 ≤ 1 := by rw [a3]; split <;> omega
    rcases Int.lt_trichotomy p q with z | z | z
    · have := tg.2.2.2.2.1 p q p0 z (by omega) ⟨hp, lp⟩ ⟨hq, lq⟩; omega
    · exact z
    · have := tg.2.2.2.2.1 q p q0 z (by omega) ⟨hq, lq⟩ ⟨hp, lp⟩; omega
  · have c0 : 0 < cntF G 40 0 0 := by
      rcases cntF_ex th 40 0 0 (by omega) (by omega) with z | z
      · exact z
      · have := z p p0 p1; omega
    rw [if_pos c0] at a3
    apply Classical.byContradiction
    intro hno
    have : tenF G 40 0 0 = 0 := tg.2.2.1 (fun q q0 q1 z => hno ⟨q, q0, by omega, z.1, z.2⟩)
    omega
  · rcases a2 p p0 p1 hp with z | z
    · exact z.2
    · exact absurd lp z.1
  · rw [hn _ (by omega) (by omega)]; omega
/-- cells behind the points stay while points are read -/
theorem gJ_far {t : Int → Int} : ∀ (m : Nat) (i l : Int) (g : Int → Int), -1 ≤ l → syJ t m i l = true → ∀ j, 240 ≤ j → gJ t m i g j = g j := by
  intro m
  induction m with
  | zero => intro i l g _ _ j _; rfl
  | succ m ih =>
    intro i l g hl h j hj
    unfold syJ at h
    split at h
    · rename_i e
      show gJ t m (i + 1) (gU t g i) j = _
      rw [ih (i + 1) _ (gU t g i) (by omega) h j hj]
      exact gU_n (by omega) (by omega) (by omega) (by omega) (by omega) (by omega)
    · cases h
