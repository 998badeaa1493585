/-! the class held against the reference: what always holds between two calls -/
/-- rows that are alike as far as they are used -/
def agr (f g : Int → Int) : Prop := ∀ j, 0 ≤ j → j < 481 → f j = g j
theorem agr_sy {f g : Int → Int} (h : agr f g) : agr g f := fun j a b => (h j a b).symm
theorem th01_cg {f g : Int → Int} (h : agr f g) (hf : th01 f) : th01 g := fun p a b => by rw [← h p a (by omega)]; exact hf p a b
theorem wfc_cg {f g : Int → Int} (h : agr f g) (hf : wfc f) : wfc g := fun p a b => by
  rw [← h (40 + p) (by omega) (by omega), ← h (80 + p) (by omega) (by omega), ← h (120 + p) (by omega) (by omega)]; exact hf p a b
theorem tree_cg {f g : Int → Int} (h : agr f g) (hf : tree f) : tree g := fun p a b hp => by
  rw [← h p a (by omega)] at hp
  have t := hf p a b hp
  rw [← h (160 + p) (by omega) (by omega), ← h (200 + p) (by omega) (by omega)]
  refine ⟨t.1, t.2.1, fun z => ?_⟩
  have t2 := t.2.2 z
  rw [← h (f (200 + p)) (by omega) (by omega), ← h (160 + f (200 + p)) (by omega) (by omega)]
  exact t2
theorem oneRoot_cg {f g : Int → Int} (h : agr f g) (hf : oneRoot f) : oneRoot g := by
  refine ⟨fun p q a b c d => ?_, fun p a b hp => ?_⟩
  · rw [← h p a (by omega), ← h q c (by omega), ← h (160 + p) (by omega) (by omega), ← h (160 + q) (by omega) (by omega)]
    exact hf.1 p q a b c d
  · rw [← h p a (by omega)] at hp
    obtain ⟨r, r0, r1, r2, r3⟩ := hf.2 p a b hp
    exact ⟨r, r0, r1, by rw [← h r r0 (by omega)]; exact r2, by rw [← h (160 + r) (by omega) (by omega)]; exact r3⟩
theorem invF_cg {f g : Int → Int} (h : agr f g) (hf : invF f) : invF g := ⟨th01_cg h hf.1, wfc_cg h hf.2.1, tree_cg h hf.2.2.1, oneRoot_cg h hf.2.2.2⟩
theorem rtP_cg {f g : Int → Int} (h : agr f g) (hf : rtP f) : rtP g := fun p a b => by
  rw [← h p a (by omega), ← h (160 + p) (by omega) (by omega), ← h (200 + p) (by omega) (by omega)]; exact hf p a b
theorem rootF_cg {f g : Int → Int} (h : agr f g) : ∀ (k : Nat) (p : Int), 0 ≤ p → p + k ≤ 40 → rootF f k p = rootF g k p := by
  intro k
  induction k with
  | zero => intro p _ _; rfl
  | succ k ih =>
    intro p p0 p1
    unfold rootF
    rw [h p p0 (by omega), h (160 + p) (by omega) (by omega), ih (p + 1) (by omega) (by omega)]
/-- the letters of a name as one number -/
def nmF (f : Int → Int) (p : Int) : Int := f (240 + 6 * p) + 32 * f (240 + 6 * p + 1) + 1024 * f (240 + 6 * p + 2) + 32768 * f (240 + 6 * p + 3) + 1048576 * f (240 + 6 * p + 4) + 33554432 * f (240 + 6 * p + 5)
theorem nmF_cg {f g : Int → Int} (h : agr f g) {p : Int} (a : 0 ≤ p) (b : p < 40) : nmF f p = nmF g p := by
  unfold nmF
  rw [h _ (by omega) (by omega), h (240 + 6 * p + 1) (by omega) (by omega), h (240 + 6 * p + 2) (by omega) (by omega), h (240 + 6 * p + 3) (by omega) (by omega), h (240 + 6 * p + 4) (by omega) (by omega), h (240 + 6 * p + 5) (by omega) (by omega)]
def rN (σ : sxS) (o : Nat) (f : Int → Int) : Prop := ∀ p, 0 ≤ p → p < 40 → (f p = 1 → σ (o + 4) p = nmF f p) ∧ (f p ≠ 1 → σ (o + 4) p = 0)
def ltr (f : Int → Int) : Prop := ∀ p k, 0 ≤ p → p < 40 → 0 ≤ k → k ≤ 5 → 0 ≤ f (240 + 6 * p + k) ∧ f (240 + 6 * p + k) ≤ 26
theorem ltr_cg {f g : Int → Int} (h : agr f g) (hf : ltr f) : ltr g := fun p k a b c d => by rw [← h _ (by omega) (by omega)]; exact hf p k a b c d
/-- a row as it always is -/
def rowOk (f : Int → Int) : Prop := invF f ∧ rtP f ∧ ltr f ∧ 0 ≤ f 480 ∧ f 480 ≤ 2
theorem rowOk_cg {f g : Int → Int} (h : agr f g) (hf : rowOk f) : rowOk g := ⟨invF_cg h hf.1, rtP_cg h hf.2.1, ltr_cg h hf.2.2.1, by rw [← h 480 (by omega) (by omega)]; exact hf.2.2.2.1, by rw [← h 480 (by omega) (by omega)]; exact hf.2.2.2.2⟩
/-- points of the class as a row -/
def PT (σ : sxS) (o : Nat) (f : Int → Int) : Prop := rA σ o f ∧ rB σ o f ∧ rN σ o f
theorem rL_cg {σ : sxS} {o : Nat} {f g : Int → Int} (h : agr f g) (hr : rL σ o f) : rL σ o g := fun p a b => by
  rw [← h p a (by omega), ← h (160 + p) (by omega) (by omega), ← h (40 + p) (by omega) (by omega), ← h (80 + p) (by omega) (by omega), ← h (120 + p) (by omega) (by omega), ← h 480 (by omega) (by omega)]
  exact hr p a b
theorem PT_cg {σ : sxS} {o : Nat} {f g : Int → Int} (h : agr f g) (hp : PT σ o f) : PT σ o g := by
  obtain ⟨⟨a1, a2, a3, a4⟩, b, c⟩ := hp
  refine ⟨⟨rL_cg h a1, fun p x y hp => ?_, ?_, ?_⟩, fun p x y hp => ?_, fun p x y => ?_⟩
  · rw [← h p x (by omega)] at hp
    rw [← h (200 + p) (by omega) (by omega)]; exact a2 p x y hp
  · rw [a3]; exact rootF_cg h 40 0 (by omega) (by omega)
  · rw [a4]; exact cntF_congr 40 0 0 (fun q x y => h q (by omega) (by omega))
  · rw [← h p x (by omega)] at hp; exact b p x y hp
  · rw [← h p x (by omega), ← nmF_cg h x y]; exact c p x y
/-- points copied: as the row of those copied -/
theorem PT_cpd {σ σ' : sxS} {o q : Nat} {f : Int → Int} (hc : cpd σ σ' o q) (hp : PT σ q f) : PT σ' o f := by
  obtain ⟨⟨a1, a2, a3, a4⟩, b, c⟩ := hp
  obtain ⟨d1, d2, d3, d4⟩ := hc
  refine ⟨⟨fun p x y => ?_, fun p x y hp => ?_, ?_, ?_⟩, fun p x y hp => ?_, fun p x y => ?_⟩
  · rw [(d1 p x y).1, (d1 p x y).2.1, d2]; exact a1 p x y
  · rw [(d1 p x y).2.2.1]; exact a2 p x y hp
  · rw [d3]; exact a3
  · rw [d4]; exact a4
  · rw [(d1 p x y).2.1]; exact b p x y hp
  · rw [(d1 p x y).2.2.2]; exact c p x y
theorem PT_cells {σ σ' : sxS} {o : Nat} {f : Int → Int} (hc : ∀ k, o ≤ k → k ≤ o + 4 → σ' k = σ k) (hp : PT σ o f) : PT σ' o f := by
  refine PT_cpd (q := o) ⟨fun j _ _ => ?_, ?_, ?_, ?_⟩ hp
  · rw [hc (o + 1) (by omega) (by omega), hc (o + 2) (by omega) (by omega), hc (o + 3) (by omega) (by omega), hc (o + 4) (by omega) (by omega)]
    exact ⟨rfl, rfl, rfl, rfl⟩
  all_goals rw [hc o (by omega) (by omega)]
/-- the cell of the i-th kept points of u, the next being at x -/
def slot (x u i : Int) : Nat := 19 + 5 * ((x - u + i + 20) % 20).toNat
def relM (a : Int → Int) (m : Int) (f : Int → Int) : Prop := (a 6 = 1 ∧ m = f 480) ∨ (a 6 = 0 ∧ m = -1 ∧ ∀ p, 0 ≤ p → p < 40 → f p = 0)
def relH (σ : sxS) : Prop := σ 17 2 = σ 149 4 ∧ (0 ≤ σ 149 4 ∧ σ 149 4 ≤ 20) ∧ (0 ≤ σ 17 1 ∧ σ 17 1 < 20) ∧ (0 < σ 149 4 → σ 149 6 = 1) ∧ ∀ i, 0 ≤ i → i < σ 149 4 → PT σ (slot (σ 17 1) (σ 149 4) i) (fun j => σ 151 (481 * i + j)) ∧ rowOk (fun j => σ 151 (481 * i + j)) ∧ σ (slot (σ 17 1) (σ 149 4) i) 4 = σ 151 (481 * i + 480)
def relT (l : Int) (t : Int → Int) (a b : Int → Int) : Prop := l = a 8 ∧ (0 ≤ a 8 ∧ a 8 ≤ 1600) ∧ ∀ j, 0 ≤ j → j < a 8 → t j = b j ∧ in8 (b j)
def relR (c : Int) (r s : Int → Int) : Prop := ∀ w, 0 ≤ w → w < 6 → r w = s w ∧ 0 ≤ s w ∧ s w ≤ c
def relS (v : Int) (a : Int → Int) : Prop := v = a 5 ∧ 0 ≤ a 5 ∧ a 5 ≤ 2147483647
def relF (x a : Int → Int) : Prop := x 5 = a 10 ∧ x 6 = a 11
def sumF (f : Int → Int) : Nat → Int → Int → Int
  | 0, _, a => a
  | k + 1, p, a => sumF f k (p + 1) (a + f p)
def relQ (x p1 p2 p3 p4 : Int → Int) (a r : Int → Int) : Prop := x 8 = a 30 ∧ (0 ≤ a 30 ∧ a 30 ≤ 40) ∧ ((a 26 = 0 ∧ x 10 = -1 ∧ a 30 = 0) ∨ (a 26 = 1 ∧ x 10 ≠ -1 ∧ x 11 = a 27 ∧ x 9 = a 28 ∧ sumF p4 (a 30).toNat 0 0 = a 29)) ∧ ∀ k, 0 ≤ k → k < a 30 → p1 k = r (4 * k) ∧ p2 k = r (4 * k + 1) ∧ p3 k = r (4 * k + 2) ∧ p4 k = r (4 * k + 3) ∧ 0 ≤ p4 k ∧ p4 k ≤ 40
def relV (x s1 s2 s3 : Int → Int) (a r1 r2 r3 : Int → Int) : Prop := x 5 = a 36 ∧ (0 ≤ a 36 ∧ a 36 ≤ 12) ∧ ∀ k, 0 ≤ k → k < a 36 → s1 k = r1 k ∧ s2 k = r2 k ∧ s3 k = r3 k
def relI (x b : Int → Int) (a r : Int → Int) : Prop := x 1 = a 41 ∧ (0 ≤ a 41 ∧ a 41 ≤ 243) ∧ ∀ k, 0 ≤ k → k < a 41 → b k = r k
def ownW : List Int := [19, 5, 20, 0, 2, 25, 0, 19, 21, 13, 0, 13, 15, 19, 20, 0, 2, 9, 20, 19, 0, 16, 15, 9, 14, 20, 0, 1, 20, 0]
def Rel (c : Int) (σ : sxS) : Prop := PT σ 7 (σ 150) ∧ rowOk (σ 150) ∧ relM (σ 149) (σ 7 4) (σ 150) ∧ relH σ ∧ relT (σ 2 1) (σ 3) (σ 149) (σ 154) ∧ relR c (σ 148) (σ 155) ∧ relS (σ 1 11) (σ 149) ∧ relF (σ 4) (σ 149) ∧ relQ (σ 119) (σ 122) (σ 123) (σ 124) (σ 125) (σ 149) (σ 161) ∧ relV (σ 141) (σ 142) (σ 143) (σ 144) (σ 149) (σ 166) (σ 167) (σ 168) ∧ relI (σ 146) (σ 147) (σ 149) (σ 169) ∧ ((σ 119 1 = 1 ∧ σ 126 1 = -1) ∧ (0 ≤ σ 119 11 ∧ σ 119 11 ≤ 765) ∧ 0 ≤ σ 126 11 ∧ σ 126 11 ≤ 765) ∧ ∀ k, 0 ≤ k → k < 30 → σ 156 k = ownW.getD k.toNat 0
theorem relH_cg {σ σ' : sxS} (h : relH σ) (h17 : σ' 17 = σ 17) (hk : ∀ k, 19 ≤ k → k ≤ 118 → σ' k = σ k) (h151 : σ' 151 = σ 151) (h4 : σ' 149 4 = σ 149 4) (h6 : σ' 149 6 = σ 149 6) : relH σ' := by
  obtain ⟨a, b, c, d, e⟩ := h
  unfold relH
  rw [h17, h4, h6, h151]
  refine ⟨a, b, c, d, fun i i0 i1 => ?_⟩
  obtain ⟨e1, e2, e3⟩ := e i i0 i1
  have hs : 19 ≤ slot (σ 17 1) (σ 149 4) i ∧ slot (σ 17 1) (σ 149 4) i + 4 ≤ 118 := by unfold slot; omega
  exact ⟨PT_cells (fun k k1 k2 => hk k (by omega) (by omega)) e1, e2, by rw [hk _ (by omega) (by omega)]; exact e3⟩
theorem relR_w {c d : Int} {r s : Int → Int} (h : relR c r s) (hc : c ≤ d) : relR d r s := fun w a b => ⟨(h w a b).1, (h w a b).2.1, by have := (h w a b).2.2; omega⟩
theorem Rel_w {c d : Int} {σ : sxS} (h : Rel c σ) (hc : c ≤ d) : Rel d σ := by
  obtain ⟨a1, a2, a3, a4, a5, a6, a7⟩ := h
  exact ⟨a1, a2, a3, a4, a5, relR_w a6 hc, a7⟩
/-- scratch: what no answer depends on between two calls -/
def scr (k : Nat) : Prop := k = 4 ∨ k = 5 ∨ k = 6 ∨ (12 ≤ k ∧ k ≤ 16) ∨ k = 120 ∨ k = 121 ∨ (126 ≤ k ∧ k ≤ 140) ∨ k = 145 ∨ k = 149 ∨ k = 152 ∨ k = 153 ∨ (157 ≤ k ∧ k ≤ 160) ∨ (162 ≤ k ∧ k ≤ 165)
def f149 (a b : Int → Int) : Prop := a 4 = b 4 ∧ a 5 = b 5 ∧ a 6 = b 6 ∧ a 8 = b 8 ∧ a 10 = b 10 ∧ a 11 = b 11 ∧ a 26 = b 26 ∧ a 27 = b 27 ∧ a 28 = b 28 ∧ a 29 = b 29 ∧ a 30 = b 30 ∧ a 36 = b 36 ∧ a 41 = b 41
theorem f149_rfl {a : Int → Int} : f149 a a := ⟨rfl, rfl, rfl, rfl, rfl, rfl, rfl, rfl, rfl, rfl, rfl, rfl, rfl⟩
theorem Rel_cg {c : Int} {σ σ' : sxS} (h : Rel c σ) (hk : ∀ k, ¬ scr k → σ' k = σ k) (hf : f149 (σ' 149) (σ 149)) (h4 : σ' 4 5 = σ 4 5 ∧ σ' 4 6 = σ 4 6) (h126 : σ' 126 = σ 126) : Rel c σ' := by
  obtain ⟨a1, a2, a3, a4, a5, a6, a7, a8, a9, a10, a11, a12, a13⟩ := h
  obtain ⟨f1, f2, f3, f4, f5, f6, f7, f8, f9, f10, f11, f12, f13⟩ := hf
  have q : ∀ k, ¬ scr k → σ' k = σ k := hk
  unfold scr at q
  refine ⟨?_, ?_, ?_, ?_, ?_, ?_, ?_, ?_, ?_, ?_, ?_, ?_, ?_⟩
  · rw [q 150 (by omega)]; exact PT_cells (fun k k1 k2 => q k (by omega)) a1
  · rw [q 150 (by omega)]; exact a2
  · rw [q 150 (by omega), q 7 (by omega)]; unfold relM; rw [f3]; exact a3
  · exact relH_cg a4 (q 17 (by omega)) (fun k k1 k2 => q k (by omega)) (q 151 (by omega)) f1 f3
  · rw [q 2 (by omega), q 3 (by omega), q 154 (by omega)]; unfold relT; rw [f4]; exact a5
  · rw [q 148 (by omega), q 155 (by omega)]; exact a6
  · rw [q 1 (by omega)]; unfold relS; rw [f2]; exact a7
  · unfold relF; rw [f5, f6, h4.1, h4.2]; exact a8
  · rw [q 119 (by omega), q 122 (by omega), q 123 (by omega), q 124 (by omega), q 125 (by omega), q 161 (by omega)]; unfold relQ; rw [f7, f8, f9, f10, f11]; exact a9
  · rw [q 141 (by omega), q 142 (by omega), q 143 (by omega), q 144 (by omega), q 166 (by omega), q 167 (by omega), q 168 (by omega)]; unfold relV; rw [f12]; exact a10
  · rw [q 146 (by omega), q 147 (by omega), q 169 (by omega)]; unfold relI; rw [f13]; exact a11
  · rw [q 119 (by omega), h126]; exact a12
  · rw [q 156 (by omega)]; exact a13
/-- a call of the class and the same call of the reference answer alike and keep what always holds -/
def call2 (n : Nat) (c : Int) (cm rm : Nat) (L1 L2 : sxL) : Prop := ∀ σ, Rel c σ → Rn cm 0 L1 [] (T0 n) σ (fun r T' σ1 => T' = T0 n ∧ ∃ v, r = some (vI v) ∧ Rn rm 0 L2 [] (T0 n) σ1 (fun r2 T2 σ2 => T2 = T0 n ∧ r2 = some (vI v) ∧ Rel (c + 1) σ2 ∧ σ2 0 = σ 0))
theorem call2_rd {n : Nat} {c : Int} {cm rm : Nat} {L1 L2 : sxL} (a : sxS → Int) (h1 : ∀ σ K, Rel c σ → (Rn cm 0 L1 [] (T0 n) σ K ↔ K (some (vI (a σ))) (T0 n) σ)) (h2 : ∀ σ K, Rel c σ → (Rn rm 0 L2 [] (T0 n) σ K ↔ K (some (vI (a σ))) (T0 n) σ)) : call2 n c cm rm L1 L2 := fun σ hr => by
  rw [h1 σ _ hr]
  refine ⟨rfl, a σ, rfl, ?_⟩
  rw [h2 σ _ hr]
  exact ⟨rfl, rfl, Rel_w hr (by omega), rfl⟩
section RL
variable {n : Nat} {c : Int}
theorem Rel_rL {σ : sxS} (h : Rel c σ) : rL σ 7 (σ 150) := h.1.1.1
theorem Rel_rP {σ : sxS} (h : Rel c σ) : rP σ 7 (σ 150) := h.1.1.2.1
theorem Rel_inv {σ : sxS} (h : Rel c σ) : invF (σ 150) := h.2.1.1
theorem Rel_wfc {σ : sxS} (h : Rel c σ) : wfc (σ 150) := h.2.1.1.2.1
theorem Rel_tree {σ : sxS} (h : Rel c σ) : tree (σ 150) := h.2.1.1.2.2.1
theorem Rel_rt {σ : sxS} (h : Rel c σ) : rtP (σ 150) := h.2.1.2.1
theorem cl7 {p w : Int} : call2 n c 53 207 [some (vR 1), some (vI p), some (vI w)] [some (vR 149), some (vI p), some (vI w)] := call2_rd (fun σ => pointS (σ 150) p w) (fun _ _ h => x53 (Rel_rL h) (Rel_rP h) (Rel_wfc h) (Rel_tree h) (Rel_rt h)) (fun _ _ h => x207 (Rel_tree h))
theorem cl8 {x y z : Int} : call2 n c 57 212 [some (vR 1), some (vI x), some (vI y), some (vI z), none] [some (vR 149), some (vI x), some (vI y), some (vI z)] := call2_rd _ (fun _ _ h => x57 (Rel_rL h) (Rel_wfc h)) (fun _ _ h => x212)
theorem cl10 {p q : Int} : call2 n c 61 215 [some (vR 1), some (vI p), some (vI q)] [some (vR 149), some (vI p), some (vI q)] := call2_rd _ (fun _ _ h => x61 (Rel_rL h) (Rel_wfc h)) (fun _ _ h => x215 (Rel_wfc h))
theorem cl11 {l k : Int} (hk : inI k) : call2 n c 63 217 [some (vR 1), some (vI l), some (vI k)] [some (vR 149), some (vI l), some (vI k), none, none] := call2_rd _ (fun _ _ h => x63 (Rel_rL h) hk) (fun _ _ h => x217)
theorem cl12 {p l : Int} : call2 n c 67 218 [some (vR 1), some (vI p), some (vI l)] [some (vR 149), some (vI p), some (vI l)] := call2_rd _ (fun _ _ h => x67 (Rel_rL h) (Rel_rP h) (Rel_tree h)) (fun _ _ h => x218 (Rel_tree h))
theorem cl13 {l w : Int} : call2 n c 69 220 [some (vR 1), some (vI l), some (vI w)] [some (vR 149), some (vI l), some (vI w)] := call2_rd _ (fun _ _ h => x69 (Rel_rL h) (Rel_rP h) (Rel_wfc h) (Rel_tree h)) (fun _ _ h => x220 (Rel_wfc h) (Rel_tree h))
theorem cl14 {w : Int} : call2 n c 74 224 [some (vR 1), some (vI w), none] [some (vR 149), some (vI w), none, none] := call2_rd _ (fun _ _ h => x74 (Rel_rL h) (Rel_rP h) (Rel_rt h)) (fun _ _ h => x224)
theorem cl19 {x y z d : Int} : call2 n c 92 235 [some (vR 1), some (vI x), some (vI y), some (vI z), some (vI d), none] [some (vR 149), some (vI x), some (vI y), some (vI z), some (vI d), none, none, none, none] := call2_rd _ (fun _ _ h => x92 (Rel_rL h) (Rel_wfc h)) (fun _ _ h => x235 (Rel_inv h).1 (Rel_wfc h))
theorem cl20 {x y z d : Int} : call2 n c 95 236 [some (vR 1), some (vI x), some (vI y), some (vI z), some (vI d), none] [some (vR 149), some (vI x), some (vI y), some (vI z), some (vI d), none, none] := call2_rd _ (fun _ _ h => x95 (Rel_rL h) (Rel_wfc h)) (fun _ _ h => x236 (Rel_wfc h))
end RL
