/-! images: read; what they must be -/
def gU (t g : Int → Int) (i : Int) : Int → Int := up1 (up1 (up1 (up1 (up1 (up1 g (t (2 + 6 * i)) 1) (40 + t (2 + 6 * i)) (t (2 + 6 * i + 1))) (80 + t (2 + 6 * i)) (t (2 + 6 * i + 2))) (120 + t (2 + 6 * i)) (t (2 + 6 * i + 3))) (160 + t (2 + 6 * i)) (t (2 + 6 * i + 4))) (200 + t (2 + 6 * i)) (if t (2 + 6 * i + 5) = 255 then -1 else t (2 + 6 * i + 5))
def gJ (t : Int → Int) : Nat → Int → (Int → Int) → (Int → Int)
  | 0, _, g => g
  | m + 1, i, g => gJ t m (i + 1) (gU t g i)
/-- numbers rising, levels that can be -/
def syJ (t : Int → Int) : Nat → Int → Int → Bool
  | 0, _, _ => true
  | m + 1, i, l => if (l < t (2 + 6 * i) ∧ t (2 + 6 * i) ≤ 39) ∧ t (2 + 6 * i + 4) ≤ 10 then syJ t m (i + 1) (t (2 + 6 * i)) else false
def ptF (g : Int → Int) (x y z : Int) : Int := fnd (fun p => decide (g p = 1 ∧ g (40 + p) = x ∧ g (80 + p) = y ∧ g (120 + p) = z)) 40 0
/-- no two at one place, as they come -/
def dfJ (t : Int → Int) : Nat → Int → (Int → Int) → Bool
  | 0, _, _ => true
  | m + 1, i, g => if ptF g (t (2 + 6 * i + 1)) (t (2 + 6 * i + 2)) (t (2 + 6 * i + 3)) = -1 then dfJ t m (i + 1) (gU t g i) else false
/-- one root at the most, as they come, without a parent -/
def rdJ (t : Int → Int) : Nat → Int → Int → Bool
  | 0, _, _ => true
  | m + 1, i, r => if t (2 + 6 * i + 4) = 10 then (if r = -1 ∧ t (2 + 6 * i + 5) = 255 then rdJ t m (i + 1) (t (2 + 6 * i)) else false) else rdJ t m (i + 1) r
def rtJ (t : Int → Int) : Nat → Int → Int → Int
  | 0, _, r => r
  | m + 1, i, r => rtJ t m (i + 1) (if t (2 + 6 * i + 4) = 10 then t (2 + 6 * i) else r)
theorem gU_n {t g : Int → Int} {i j : Int} (a : j ≠ t (2 + 6 * i)) (b : j ≠ 40 + t (2 + 6 * i)) (c : j ≠ 80 + t (2 + 6 * i)) (d : j ≠ 120 + t (2 + 6 * i)) (e : j ≠ 160 + t (2 + 6 * i)) (f : j ≠ 200 + t (2 + 6 * i)) : gU t g i j = g j := by
  unfold gU
  rw [up1_n f, up1_n e, up1_n d, up1_n c, up1_n b, up1_n a]
theorem gU_y {t g : Int → Int} {i : Int} (h0 : 0 ≤ t (2 + 6 * i)) (h1 : t (2 + 6 * i) ≤ 39) : gU t g i (t (2 + 6 * i)) = 1 ∧ gU t g i (40 + t (2 + 6 * i)) = t (2 + 6 * i + 1) ∧ gU t g i (80 + t (2 + 6 * i)) = t (2 + 6 * i + 2) ∧ gU t g i (120 + t (2 + 6 * i)) = t (2 + 6 * i + 3) ∧ gU t g i (160 + t (2 + 6 * i)) = t (2 + 6 * i + 4) ∧ gU t g i (200 + t (2 + 6 * i)) = (if t (2 + 6 * i + 5) = 255 then -1 else t (2 + 6 * i + 5)) := by
  unfold gU
  refine ⟨?_, ?_, ?_, ?_, ?_, up1_s _ _ _⟩
  · rw [up1_n (by omega), up1_n (by omega), up1_n (by omega), up1_n (by omega), up1_n (by omega), up1_s]
  · rw [up1_n (by omega), up1_n (by omega), up1_n (by omega), up1_n (by omega), up1_s]
  · rw [up1_n (by omega), up1_n (by omega), up1_n (by omega), up1_s]
  · rw [up1_n (by omega), up1_n (by omega), up1_s]
  · rw [up1_n (by omega), up1_s]
/-- what was read stays: points up to l are as they are -/
theorem gJ_keep {t : Int → Int} : ∀ (m : Nat) (i l : Int) (g : Int → Int), -1 ≤ l → syJ t m i l = true → ∀ q, 0 ≤ q → q ≤ l → gJ t m i g q = g q ∧ gJ t m i g (40 + q) = g (40 + q) ∧ gJ t m i g (80 + q) = g (80 + q) ∧ gJ t m i g (120 + q) = g (120 + q) ∧ gJ t m i g (160 + q) = g (160 + q) ∧ gJ t m i g (200 + q) = g (200 + q) := by
  intro m
  induction m with
  | zero => intro i l g _ _ q _ _; exact ⟨rfl, rfl, rfl, rfl, rfl, rfl⟩
  | succ m ih =>
    intro i l g hl h q q0 q1
    unfold syJ at h
    split at h
    · rename_i e
      have z := ih (i + 1) (t (2 + 6 * i)) (gU t g i) (by omega) h q q0 (by omega)
      refine ⟨?_, ?_, ?_, ?_, ?_, ?_⟩
      · rw [show gJ t (m + 1) i g = gJ t m (i + 1) (gU t g i) from rfl, z.1]; exact gU_n (by omega) (by omega) (by omega) (by omega) (by omega) (by omega)
      · rw [show gJ t (m + 1) i g = gJ t m (i + 1) (gU t g i) from rfl, z.2.1]; exact gU_n (by omega) (by omega) (by omega) (by omega) (by omega) (by omega)
      · rw [show gJ t (m + 1) i g = gJ t m (i + 1) (gU t g i) from rfl, z.2.2.1]; exact gU_n (by omega) (by omega) (by omega) (by omega) (by omega) (by omega)
      · rw [show gJ t (m + 1) i g = gJ t m (i + 1) (gU t g i) from rfl, z.2.2.2.1]; exact gU_n (by omega) (by omega) (by omega) (by omega) (by omega) (by omega)
      · rw [show gJ t (m + 1) i g = gJ t m (i + 1) (gU t g i) from rfl, z.2.2.2.2.1]; exact gU_n (by omega) (by omega) (by omega) (by omega) (by omega) (by omega)
      · rw [show gJ t (m + 1) i g = gJ t m (i + 1) (gU t g i) from rfl, z.2.2.2.2.2]; exact gU_n (by omega) (by omega) (by omega) (by omega) (by omega) (by omega)
    · cases h
/-- a row read so far: numbers up to l -/
def rdOk (t g : Int → Int) (l : Int) : Prop := ∀ p, 0 ≤ p → p < 40 → (g p = 0 ∨ (g p = 1 ∧ p ≤ l)) ∧ in8 (g (40 + p)) ∧ in8 (g (80 + p)) ∧ in8 (g (120 + p)) ∧ (g p = 1 → (0 ≤ g (160 + p) ∧ g (160 + p) ≤ 10) ∧ (g (200 + p) = -1 ∨ (0 ≤ g (200 + p) ∧ g (200 + p) < 255)))
theorem rdOk_s {t g : Int → Int} {l i : Int} (h : rdOk t g l) (ht : ∀ d, 0 ≤ d → d ≤ 5 → in8 (t (2 + 6 * i + d))) (hl : -1 ≤ l) (h1 : l < t (2 + 6 * i)) (h2 : t (2 + 6 * i) ≤ 39) (h3 : t (2 + 6 * i + 4) ≤ 10) : rdOk t (gU t g i) (t (2 + 6 * i)) := by
  intro p p0 p1
  have y := gU_y (t := t) (g := g) (i := i) (by omega) h2
  have t1 := ht 1 (by omega) (by omega)
  have t2 := ht 2 (by omega) (by omega)
  have t3 := ht 3 (by omega) (by omega)
  have t4 := ht 4 (by omega) (by omega)
  have t5 := ht 5 (by omega) (by omega)
  unfold in8 at t4 t5
  by_cases e : p = t (2 + 6 * i)
  · rw [e, y.1, y.2.1, y.2.2.1, y.2.2.2.1, y.2.2.2.2.1, y.2.2.2.2.2]
    refine ⟨Or.inr ⟨rfl, by omega⟩, t1, t2, t3, fun _ => ⟨by omega, ?_⟩⟩
    split <;> omega
  · rw [gU_n e (by omega) (by omega) (by omega) (by omega) (by omega), gU_n (by omega) (by omega) (by omega) (by omega) (by omega) (by omega), gU_n (by omega) (by omega) (by omega) (by omega) (by omega) (by omega), gU_n (by omega) (by omega) (by omega) (by omega) (by omega) (by omega), gU_n (by omega) (by omega) (by omega) (by omega) (by omega) (by omega), gU_n (by omega) (by omega) (by omega) (by omega) (by omega) (by omega)]
    have z := h p p0 p1
    exact ⟨by omega, z.2.1, z.2.2.1, z.2.2.2.1, z.2.2.2.2⟩
theorem rdOk_J {t : Int → Int} : ∀ (m : Nat) (i l : Int) (g : Int → Int), 0 ≤ i → -1 ≤ l → rdOk t g l → (∀ j, 2 + 6 * i ≤ j → j < 2 + 6 * (i + m) → in8 (t j)) → syJ t m i l = true → rdOk t (gJ t m i g) 39 := by
  intro m
  induction m with
  | zero =>
    intro i l g _ _ h _ _ p p0 p1
    have z := h p p0 p1
    have z1 : g p = 0 ∨ (g p = 1 ∧ p ≤ 39) := by omega
    exact ⟨z1, z.2⟩
  | succ m ih =>
    intro i l g i0 hl h ht hs
    unfold syJ at hs
    split at hs
    · rename_i e
      exact ih (i + 1) _ _ (by omega) (by omega) (rdOk_s h (fun d d0 d1 => ht _ (by omega) (by omega)) hl e.1.1 e.1.2 e.2) (fun j a b => ht j (by omega) (by omega)) hs
    · cases hs
/-- parents: each but the root has one above that covers it -/
def cvP (g : Int → Int) (p : Int) : Prop := ((0 ≤ g (200 + p) ∧ g (200 + p) < 40) ∧ g (g (200 + p)) = 1) ∧ g (160 + p) < g (160 + g (200 + p)) ∧ farO g p (g (200 + p)) < 2 * 2 ^ (g (160 + p)).toNat
def sepP (g : Int → Int) : Prop := ∀ a b, 0 ≤ a → a < b → b < 40 → g a = 1 → g b = 1 → 2 ^ (min (g (160 + a)) (g (160 + b))).toNat ≤ farO g a b
theorem farO_0 {g : Int → Int} {a b : Int} (hb : in8 (g (40 + b)) ∧ in8 (g (80 + b)) ∧ in8 (g (120 + b))) (h1 : g (40 + a) = g (40 + b)) (h2 : g (80 + a) = g (80 + b)) (h3 : g (120 + a) = g (120 + b)) : farO g a b = 0 := by
  unfold farO farT
  rw [h1, h2, h3]
  exact farF_s hb.1 hb.2.1 hb.2.2
theorem sep_df {t : Int → Int} : ∀ (m : Nat) (i l : Int) (g : Int → Int), 0 ≤ i → -1 ≤ l → rdOk t g l → (∀ j, 2 + 6 * i ≤ j → j < 2 + 6 * (i + m) → in8 (t j)) → syJ t m i l = true → sepP (gJ t m i g) → dfJ t m i g = true := by
  intro m
  induction m with
  | zero => intro i l g _ _ _ _ _ _; rfl
  | succ m ih =>
    intro i l g i0 hl h ht hs hsep
    have hs' := hs
    unfold syJ at hs
    split at hs
    · rename_i e
      have ok := rdOk_s h (fun d d0 d1 => ht _ (by omega) (by omega)) hl e.1.1 e.1.2 e.2
      unfold dfJ
      rw [if_pos]
      · exact ih (i + 1) _ _ (by omega) (by omega) ok (fun j a b => ht j (by omega) (by omega)) hs hsep
      · rcases fnd_in (fun p => decide (g p = 1 ∧ g (40 + p) = t (2 + 6 * i + 1) ∧ g (80 + p) = t (2 + 6 * i + 2) ∧ g (120 + p) = t (2 + 6 * i + 3))) 40 0 with z | ⟨z1, z2, z3⟩
        · exact z
        · exfalso
          generalize fnd (fun p => decide (g p = 1 ∧ g (40 + p) = t (2 + 6 * i + 1) ∧ g (80 + p) = t (2 + 6 * i + 2) ∧ g (120 + p) = t (2 + 6 * i + 3))) 40 0 = q at *
          rw [decide_eq_true_eq] at z3
          have hq := (h q z1 (by omega)).1
          have ql : q ≤ l := by omega
          have kq := gJ_keep (t := t) (m + 1) i l g hl hs' q z1 ql
          have kp := gJ_keep (t := t) m (i + 1) (t (2 + 6 * i)) (gU t g i) (by omega) hs (t (2 + 6 * i)) (by omega) (by omega)
          have y := gU_y (t := t) (g := g) (i := i) (by omega) e.1.2
          change gJ t m (i + 1) (gU t g i) q = _ ∧ gJ t m (i + 1) (gU t g i) (40 + q) = _ ∧ gJ t m (i + 1) (gU t g i) (80 + q) = _ ∧ gJ t m (i + 1) (gU t g i) (120 + q) = _ ∧ gJ t m (i + 1) (gU t g i) (160 + q) = _ ∧ gJ t m (i + 1) (gU t g i) (200 + q) = _ at kq
          change sepP (gJ t m (i + 1) (gU t g i)) at hsep
          have okJ := rdOk_J m (i + 1) _ _ (by omega) (by omega) ok (fun j a b => ht j (by omega) (by omega)) hs
          generalize gJ t m (i + 1) (gU t g i) = G at *
          have s := hsep q (t (2 + 6 * i)) z1 (by omega) (by omega) (by rw [kq.1]; exact z3.1) (by rw [kp.1]; exact y.1)
          have w := okJ (t (2 + 6 * i)) (by omega) (by omega)
          rw [farO_0 ⟨w.2.1, w.2.2.1, w.2.2.2.1⟩ (by rw [kq.2.1, kp.2.1, y.2.1]; exact z3.2.1) (by rw [kq.2.2.1, kp.2.2.1, y.2.2.1]; exact z3.2.2.1) (by rw [kq.2.2.2.1, kp.2.2.2.1, y.2.2.2.1]; exact z3.2.2.2)] at s
          have : (0 : Int) < 2 ^ (min (G (160 + q)) (G (160 + t (2 + 6 * i)))).toNat := Int.pow_pos (by decide)
          omega
    · cases hs
/-- the root read so far is the one of the highest level -/
def rtI (g : Int → Int) (r : Int) : Prop := (r = -1 ∨ ((0 ≤ r ∧ r < 40) ∧ g r = 1 ∧ g (160 + r) = 10 ∧ g (200 + r) = -1)) ∧ ∀ p, 0 ≤ p → p < 40 → g p = 1 → g (160 + p) = 10 → p = r
theorem rd_rt {t : Int → Int} : ∀ (m : Nat) (i l r : Int) (g : Int → Int), 0 ≤ i → -1 ≤ l → rdOk t g l → (∀ j, 2 + 6 * i ≤ j → j < 2 + 6 * (i + m) → in8 (t j)) → syJ t m i l = true → rtI g r → rdJ t m i r = true → rtI (gJ t m i g) (rtJ t m i r) := by
  intro m
  induction m with
  | zero => intro i l r g _ _ _ _ _ h _; exact h
  | succ m ih =>
    intro i l r g i0 hl h ht hs hr hd
    unfold syJ at hs
    split at hs
    · rename_i e
      have ok := rdOk_s h (fun d d0 d1 => ht _ (by omega) (by omega)) hl e.1.1 e.1.2 e.2
      have y := gU_y (t := t) (g := g) (i := i) (by omega) e.1.2
      have kn : ∀ q, 0 ≤ q → q < 40 → q ≠ t (2 + 6 * i) → gU t g i q = g q ∧ gU t g i (160 + q) = g (160 + q) ∧ gU t g i (200 + q) = g (200 + q) := fun q q0 q1 qe => ⟨gU_n qe (by omega) (by omega) (by omega) (by omega) (by omega), gU_n (by omega) (by omega) (by omega) (by omega) (by omega) (by omega), gU_n (by omega) (by omega) (by omega) (by omega) (by omega) (by omega)⟩
      have new : g (t (2 + 6 * i)) ≠ 1 := fun z => by have := (h (t (2 + 6 * i)) (by omega) (by omega)).1; omega
      show rtI (gJ t m (i + 1) (gU t g i)) (rtJ t m (i + 1) (if t (2 + 6 * i + 4) = 10 then t (2 + 6 * i) else r))
      unfold rdJ at hd
      by_cases e10 : t (2 + 6 * i + 4) = 10
      · rw [if_pos e10] at hd ⊢
        by_cases e2 : r = -1 ∧ t (2 + 6 * i + 5) = 255
        · rw [if_pos e2] at hd
          refine ih (i + 1) _ _ _ (by omega) (by omega) ok (fun j a b => ht j (by omega) (by omega)) hs ⟨Or.inr ⟨by omega, y.1, by rw [y.2.2.2.2.1]; exact e10, by rw [y.2.2.2.2.2, if_pos e2.2]⟩, fun p p0 p1 hp hp2 => ?_⟩ hd
          by_cases ep : p = t (2 + 6 * i)
          · exact ep
          · have k := kn p p0 p1 ep
            rw [k.1] at hp
            rw [k.2.1] at hp2
            have := hr.2 p p0 p1 hp hp2
            omega
        · rw [if_neg e2] at hd; cases hd
      · rw [if_neg e10] at hd ⊢
        refine ih (i + 1) _ _ _ (by omega) (by omega) ok (fun j a b => ht j (by omega) (by omega)) hs ⟨?_, fun p p0 p1 hp hp2 => ?_⟩ hd
        · rcases hr.1 with z | ⟨z1, z2, z3, z4⟩
          · exact Or.inl z
          · have er : r ≠ t (2 + 6 * i) := fun w => new (w ▸ z2)
            have k := kn r z1.1 z1.2 er
            exact Or.inr ⟨z1, by rw [k.1]; exact z2, by rw [k.2.1]; exact z3, by rw [k.2.2]; exact z4⟩
        · by_cases ep : p = t (2 + 6 * i)
          · rw [ep, y.2.2.2.2.1] at hp2; exact absurd hp2 e10
          · have k := kn p p0 p1 ep
            rw [k.1] at hp
            rw [k.2.1] at hp2
            exact hr.2 p p0 p1 hp hp2
    · cases hs
theorem one_rd {t : Int → Int} : ∀ (m : Nat) (i l r : Int) (g : Int → Int), 0 ≤ i → -1 ≤ l → rdOk t g l → (∀ j, 2 + 6 * i ≤ j → j < 2 + 6 * (i + m) → in8 (t j)) → syJ t m i l = true → (r = -1 ∨ ((0 ≤ r ∧ r ≤ l) ∧ g r = 1 ∧ g (160 + r) = 10)) → (∀ p q, 0 ≤ p → p < 40 → 0 ≤ q → q < 40 → gJ t m i g p = 1 → gJ t m i g q = 1 → gJ t m i g (160 + p) = 10 → gJ t m i g (160 + q) = 10 → p = q) → (∀ p, 0 ≤ p → p < 40 → gJ t m i g p = 1 → gJ t m i g (160 + p) = 10 → gJ t m i g (200 + p) = -1) → rdJ t m i r = true := by
  intro m
  induction m with
  | zero => intro i l r g _ _ _ _ _ _ _ _; rfl
  | succ m ih =>
    intro i l r g i0 hl h ht hs hr h1 h2
    have hs' := hs
    unfold syJ at hs
    split at hs
    · rename_i e
      have ok := rdOk_s h (fun d d0 d1 => ht _ (by omega) (by omega)) hl e.1.1 e.1.2 e.2
      have y := gU_y (t := t) (g := g) (i := i) (by omega) e.1.2
      have kp := gJ_keep (t := t) m (i + 1) (t (2 + 6 * i)) (gU t g i) (by omega) hs (t (2 + 6 * i)) (by omega) (by omega)
      have t5 := ht (2 + 6 * i + 5) (by omega) (by omega)
      unfold in8 at t5
      unfold rdJ
      by_cases e10 : t (2 + 6 * i + 4) = 10
      · rw [if_pos e10]
        have par : t (2 + 6 * i + 5) = 255 := by
          have z := h2 (t (2 + 6 * i)) (by omega) (by omega) (by show gJ t m (i + 1) (gU t g i) _ = 1; rw [kp.1]; exact y.1) (by show gJ t m (i + 1) (gU t g i) _ = 10; rw [kp.2.2.2.2.1, y.2.2.2.2.1]; exact e10)
          change gJ t m (i + 1) (gU t g i) _ = -1 at z
          rw [kp.2.2.2.2.2, y.2.2.2.2.2] at z
          by_cases q : t (2 + 6 * i + 5) = 255
          · exact q
          · rw [if_neg q] at z; omega
        have rm : r = -1 := by
          rcases hr with z | ⟨z1, z2, z3⟩
          · exact z
          · exfalso
            have kr := gJ_keep (t := t) (m + 1) i l g hl hs' r z1.1 z1.2
            have := h1 r (t (2 + 6 * i)) z1.1 (by omega) (by omega) (by omega) (by rw [kr.1]; exact z2) (by show gJ t m (i + 1) (gU t g i) _ = 1; rw [kp.1]; exact y.1) (by rw [kr.2.2.2.2.1]; exact z3) (by show gJ t m (i + 1) (gU t g i) _ = 10; rw [kp.2.2.2.2.1, y.2.2.2.2.1]; exact e10)
            omega
        rw [if_pos ⟨rm, par⟩]
        exact ih (i + 1) _ _ _ (by omega) (by omega) ok (fun j a b => ht j (by omega) (by omega)) hs (Or.inr ⟨by omega, y.1, by rw [y.2.2.2.2.1]; exact e10⟩) h1 h2
      · rw [if_neg e10]
        refine ih (i + 1) _ _ _ (by omega) (by omega) ok (fun j a b => ht j (by omega) (by omega)) hs ?_ h1 h2
        rcases hr with z | ⟨z1, z2, z3⟩
        · exact Or.inl z
        · have er : r ≠ t (2 + 6 * i) := by omega
          exact Or.inr ⟨by omega, by rw [gU_n er (by omega) (by omega) (by omega) (by omega) (by omega)]; exact z2, by rw [gU_n (by omega) (by omega) (by omega) (by omega) (by omega) (by omega)]; exact z3⟩
    · cases hs
/-- what an image must be, behind its numbers -/
def netP (g : Int → Int) : Prop := (∀ p, 0 ≤ p → p < 40 → g p = 1 → (g (160 + p) = 10 ∧ g (200 + p) = -1) ∨ (g (160 + p) ≠ 10 ∧ cvP g p)) ∧ (∀ p q, 0 ≤ p → p < 40 → 0 ≤ q → q < 40 → g p = 1 → g q = 1 → g (160 + p) = 10 → g (160 + q) = 10 → p = q) ∧ (∀ p, 0 ≤ p → p < 40 → g p = 1 → ∃ r, (0 ≤ r ∧ r < 40) ∧ g r = 1 ∧ g (160 + r) = 10)
