/-! rows kept as they must be by acts -/
def ag2 (f g : Int → Int) : Prop := ∀ j, (0 ≤ j ∧ j < 240) ∨ j = 480 → f j = g j
theorem th01_c2 {f g : Int → Int} (h : ag2 f g) (hf : th01 f) : th01 g := fun p a b => by rw [← h p (by omega)]; exact hf p a b
theorem wfc_c2 {f g : Int → Int} (h : ag2 f g) (hf : wfc f) : wfc g := fun p a b => by
  rw [← h (40 + p) (by omega), ← h (80 + p) (by omega), ← h (120 + p) (by omega)]; exact hf p a b
theorem tree_c2 {f g : Int → Int} (h : ag2 f g) (hf : tree f) : tree g := fun p a b hp => by
  rw [← h p (by omega)] at hp
  have t := hf p a b hp
  rw [← h (160 + p) (by omega), ← h (200 + p) (by omega)]
  refine ⟨t.1, t.2.1, fun z => ?_⟩
  have t2 := t.2.2 z
  rw [← h (f (200 + p)) (by omega), ← h (160 + f (200 + p)) (by omega)]
  exact t2
theorem oneRoot_c2 {f g : Int → Int} (h : ag2 f g) (hf : oneRoot f) : oneRoot g := by
  refine ⟨fun p q a b c d => ?_, fun p a b hp => ?_⟩
  · rw [← h p (by omega), ← h q (by omega), ← h (160 + p) (by omega), ← h (160 + q) (by omega)]
    exact hf.1 p q a b c d
  · rw [← h p (by omega)] at hp
    obtain ⟨r, r0, r1, r2, r3⟩ := hf.2 p a b hp
    exact ⟨r, r0, r1, by rw [← h r (by omega)]; exact r2, by rw [← h (160 + r) (by omega)]; exact r3⟩
theorem invF_c2 {f g : Int → Int} (h : ag2 f g) (hf : invF f) : invF g := ⟨th01_c2 h hf.1, wfc_c2 h hf.2.1, tree_c2 h hf.2.2.1, oneRoot_c2 h hf.2.2.2⟩
theorem rtP_c2 {f g : Int → Int} (h : ag2 f g) (hf : rtP f) : rtP g := fun p a b => by
  rw [← h p (by omega), ← h (160 + p) (by omega), ← h (200 + p) (by omega)]; exact hf p a b
theorem rootF_c2 {f g : Int → Int} (h : ag2 f g) : ∀ (k : Nat) (p : Int), 0 ≤ p → p + k ≤ 40 → rootF f k p = rootF g k p := by
  intro k
  induction k with
  | zero => intro p _ _; rfl
  | succ k ih =>
    intro p p0 p1
    unfold rootF
    rw [h p (by omega), h (160 + p) (by omega), ih (p + 1) (by omega) (by omega)]
theorem rL_c2 {σ : sxS} {o : Nat} {f g : Int → Int} (h : ag2 f g) (hr : rL σ o f) : rL σ o g := fun p a b => by
  rw [← h p (by omega), ← h (160 + p) (by omega), ← h (40 + p) (by omega), ← h (80 + p) (by omega), ← h (120 + p) (by omega), ← h 480 (by omega)]
  exact hr p a b
theorem rA_c2 {σ : sxS} {o : Nat} {f g : Int → Int} (h : ag2 f g) (hp : rA σ o f) : rA σ o g := by
  obtain ⟨a1, a2, a3, a4⟩ := hp
  refine ⟨rL_c2 h a1, fun p x y hp => ?_, ?_, ?_⟩
  · rw [← h p (by omega)] at hp
    rw [← h (200 + p) (by omega)]; exact a2 p x y hp
  · rw [a3]; exact rootF_c2 h 40 0 (by omega) (by omega)
  · rw [a4]; exact cntF_congr 40 0 0 (fun q x y => h q (by omega))
theorem riseF_n {p j : Int} (h1 : j ≠ 160 + p) (h2 : j ≠ 200 + p) : ∀ (m : Nat) (f : Int → Int), riseF m f p j = f j := by
  intro m
  induction m with
  | zero => intro f; rfl
  | succ m ih =>
    intro f
    unfold riseF
    split
    · rw [ih, up1_n h1]
    · rw [up1_n h2]
theorem risesF_n {j : Int} (hj : j < 160 ∨ 240 ≤ j) : ∀ (L : List Int) (f : Int → Int), (∀ q ∈ L, 0 ≤ q ∧ q < 40) → risesF f L j = f j := by
  intro L
  induction L with
  | nil => intro f _; rfl
  | cons q L ih =>
    intro f h
    have := h q List.mem_cons_self
    show risesF (rise f q) L j = f j
    rw [ih _ (fun p hp => h p (List.mem_cons_of_mem _ hp))]
    exact riseF_n (by omega) (by omega) _ _
theorem goesL_n {j : Int} (hj : j < 160 ∨ 240 ≤ j) {L : List Int} {f : Int → Int} {w : Int} (h : ∀ q ∈ L, 0 ≤ q ∧ q < 40) : goesL f w L j = f j := by
  cases L with
  | nil => rfl
  | cons q L =>
    have := h q List.mem_cons_self
    have h2 := fun p hp => h p (List.mem_cons_of_mem q hp)
    by_cases e : w = 1
    · simp only [goesL, if_pos e]
      rw [risesF_n hj _ _ h2, up1_n (by omega), up1_n (by omega)]
    · simp only [goesL, if_neg e]
      exact risesF_n hj _ _ h
theorem goesF_n {f : Int → Int} {g j : Int} (hj : (40 ≤ j ∧ j < 160) ∨ 240 ≤ j) (g1 : g < 40) : goesF f g j = f j := by
  unfold goesF
  rw [goesL_n (by omega) (fun q hq => (kids_mem hq).1), markF_n (f := f) _ _ j (by omega) (fun q hq => (kids_mem hq).1), up1_n (by omega)]
theorem rtP_rises {r : Int} (r0 : 0 ≤ r) (r1 : r < 40) : ∀ (L : List Int) (f : Int → Int), wfc f → lstOk f L → r ∉ L → f r = 1 → 10 ≤ f (160 + r) → rtP f → rtP (risesF f L) := by
  intro L
  induction L with
  | nil => intro f _ _ _ _ _ h; exact h
  | cons q L ih =>
    intro f hw hl hr h1 h2 h
    have hq := hl.2 q List.mem_cons_self
    have nd := List.nodup_cons.mp hl.1
    have hqr : q ≠ r := fun e => hr (e ▸ List.mem_cons_self)
    obtain ⟨s1, s2, s3, -⟩ := rise_spec hq.1.1 hq.1.2 r0 r1 hqr hw h1 h2 hq.2.2.1 hq.2.2.2
    show rtP (risesF (rise f q) L)
    refine ih (rise f q) (wfc_rise hq.1.1 hq.1.2 r0 r1 hqr hw h1 h2 hq.2.2.1 hq.2.2.2) ⟨nd.2, fun p hp => ?_⟩ (fun z => hr (List.mem_cons_of_mem _ z)) ?_ ?_ (fun p p0 p1 a b => ?_)
    · have z := hl.2 p (List.mem_cons_of_mem _ hp)
      have e : p ≠ q := fun e => nd.1 (e ▸ hp)
      rw [s1 p (by omega) (by omega), s1 (160 + p) (by omega) (by omega)]; exact z
    · rw [s1 r (by omega) (by omega)]; exact h1
    · rw [s1 (160 + r) (by omega) (by omega)]; exact h2
    · by_cases e : p = q
      · subst e; omega
      · rw [s1 p (by omega) (by omega)] at a
        rw [s1 (160 + p) (by omega) (by omega)] at b
        rw [s1 (200 + p) (by omega) (by omega)]; exact h p p0 p1 a b
theorem rtP_goes {f : Int → Int} {g : Int} (hi : invF f) (hz : rtP f) (g0 : 0 ≤ g) (g1 : g < 40) (hg : f g = 1) : rtP (goesF f g) := by
  have f1n : ∀ j, j ≠ g → up1 f g 0 j = f j := fun j hj => up1_n hj
  have f1g : up1 f g 0 g = 0 := up1_s _ _ _
  have kr : ∀ q ∈ kids (up1 f g 0) g, 0 ≤ q ∧ q < 40 := fun q hq => (kids_mem hq).1
  have mk : ∀ j, (j < 200 ∨ 240 ≤ j) → markF (up1 f g 0) (kids (up1 f g 0) g) j = up1 f g 0 j := fun j hj => markF_n (f := f) _ _ j hj kr
  have mw : wfc (markF (up1 f g 0) (kids (up1 f g 0) g)) := fun p p0 p1 => by
    rw [mk (40 + p) (by omega), mk (80 + p) (by omega), mk (120 + p) (by omega), f1n (40 + p) (by omega), f1n (80 + p) (by omega), f1n (120 + p) (by omega)]
    exact hi.2.1 p p0 p1
  have mr : rtP (markF (up1 f g 0) (kids (up1 f g 0) g)) := fun p p0 p1 a b => by
    rw [mk p (by omega)] at a
    have e : p ≠ g := fun e => by rw [e, f1g] at a; cases a
    rw [f1n p e] at a
    rw [mk (160 + p) (by omega), f1n _ (by omega)] at b
    have hn : p ∉ kids (up1 f g 0) g := fun z => by
      have z := kids_mem z
      rw [f1n (160 + p) (by omega)] at z
      omega
    rw [markF_p _ _ p hn kr p0 p1, f1n _ (by omega)]
    exact hz p p0 p1 a b
  have ml : lstOk (markF (up1 f g 0) (kids (up1 f g 0) g)) (kids (up1 f g 0) g) := ⟨kids_nd, fun p hp => by
    have z := kids_mem hp
    rw [mk p (by omega), mk (160 + p) (by omega)]
    exact ⟨z.1, z.2.1, z.2.2.1, z.2.2.2.1⟩⟩
  unfold goesF
  generalize hL : kids (up1 f g 0) g = L at *
  generalize markF (up1 f g 0) L = h at *
  cases L with
  | nil => exact mr
  | cons q L =>
    have hq := ml.2 q List.mem_cons_self
    have nd := List.nodup_cons.mp ml.1
    by_cases e : f (160 + g) = 10
    · simp only [goesL, if_pos e, if_true]
      refine rtP_rises hq.1.1 hq.1.2 L _ (wfc_up (wfc_up mw (by omega)) (by omega)) ⟨nd.2, fun p hp => ?_⟩ nd.1 ?_ ?_ (fun p p0 p1 a b => ?_)
      · have z := ml.2 p (List.mem_cons_of_mem _ hp)
        have e : p ≠ q := fun e => nd.1 (e ▸ hp)
        rw [up1_n (by omega), up1_n (by omega), up1_n (by omega), up1_n (by omega)]; exact z
      · rw [up1_n (by omega), up1_n (by omega)]; exact hq.2.1
      · rw [up1_n (by omega), up1_s]; decide
      · by_cases e : p = q
        · subst e; rw [up1_s]
        · rw [up1_n (by omega), up1_n (by omega)] at a b
          rw [up1_n (by omega), up1_n (by omega)]; exact mr p p0 p1 a b
    · simp only [goesL, if_neg e]
      rw [if_neg (by decide)]
      have rs := root_some hi g0 g1 hg
      have ne : rootF f 40 0 ≠ g := fun z => e (by rw [← z]; exact rs.2.2)
      refine rtP_rises rs.1.1 rs.1.2 (q :: L) h mw ml (fun z => ?_) ?_ ?_ mr
      · have z := ml.2 _ z
        rw [mk (160 + rootF f 40 0) (by omega), f1n (160 + rootF f 40 0) (by omega)] at z
        omega
      · rw [mk _ (by omega), f1n _ ne]; exact rs.2.1
      · rw [mk _ (by omega), f1n _ (by omega)]; omega
theorem rowOk_goes {f : Int → Int} {g : Int} (h : rowOk f) (g0 : 0 ≤ g) (g1 : g < 40) (hg : f g = 1) : rowOk (goesF f g) := by
  refine ⟨(inv_goes h.1 g0 g1 hg).1, rtP_goes h.1 h.2.1 g0 g1 hg, fun p k a b c d => ?_, ?_, ?_⟩
  · rw [goesF_n (by omega) g1]; exact h.2.2.1 p k a b c d
  · rw [goesF_n (by omega) g1]; exact h.2.2.2.1
  · rw [goesF_n (by omega) g1]; exact h.2.2.2.2
theorem rtP_comes {f : Int → Int} {p x y z : Int} (hz : rtP f) (p0 : 0 ≤ p) (p1 : p < 40) : rtP (comesF f p x y z) := fun q q0 q1 a b => by
  have t := comesF_t (f := f) (x := x) (y := y) (z := z) p0 p1
  by_cases e : q = p
  · subst e
    rw [t.2.1] at b
    rw [t.2.2, if_pos b]
  · rw [comesF_n (by omega) (by omega) (by omega) (by omega) (by omega) (by omega)] at a b
    rw [comesF_n (by omega) (by omega) (by omega) (by omega) (by omega) (by omega)]
    exact hz q q0 q1 a b
theorem rowOk_comes {f : Int → Int} {p x y z : Int} (h : rowOk f) (p0 : 0 ≤ p) (p1 : p < 40) (hp : f p ≠ 1) (hx : in8 x) (hy : in8 y) (hz : in8 z) : rowOk (comesF f p x y z) := by
  refine ⟨inv_comes h.1 p0 p1 hp hx hy hz, rtP_comes h.2.1 p0 p1, fun q k a b c d => ?_, ?_, ?_⟩
  all_goals rw [comesF_n (by omega) (by omega) (by omega) (by omega) (by omega) (by omega)]
  · exact h.2.2.1 q k a b c d
  · exact h.2.2.2.1
  · exact h.2.2.2.2
theorem rtP_anewL {f0 : Int → Int} : ∀ (k : Nat) (p : Int) (h : Int → Int), p + k = 40 → 0 ≤ p → rtP h → rtP (anewL f0 k p h) := by
  intro k
  induction k with
  | zero => intro p h _ _ hz; exact hz
  | succ k ih =>
    intro p h hp p0 hz
    unfold anewL
    refine ih _ _ (by omega) (by omega) ?_
    split
    · exact rtP_comes hz p0 (by omega)
    · exact hz
theorem rowOk_anew {f : Int → Int} (h : rowOk f) : rowOk (anewF f) := by
  have ia := inv_anew h.1
  refine ⟨ia.1, rtP_anewL 40 0 _ (by omega) (by omega) (fun p p0 p1 a => ?_), fun q k a b c d => ?_, ?_, ?_⟩
  · unfold cpF at a; rw [if_pos ⟨p0, p1⟩] at a; cases a
  · rw [ia.2.2 _ (by omega)]; exact h.2.2.1 q k a b c d
  · rw [ia.2.2 _ (by omega)]; exact h.2.2.2.1
  · rw [ia.2.2 _ (by omega)]; exact h.2.2.2.2
theorem fnd_free {f : Int → Int} (h : th01 f) : ∀ (k : Nat) (p a : Int), 0 ≤ p → p + k ≤ 40 → (fnd (fun p => decide (f p = 0)) k p = -1 ↔ cntF f k p a = a + k) := by
  intro k
  induction k with
  | zero => intro p a _ _; unfold fnd cntF; simp
  | succ k ih =>
    intro p a p0 p1
    unfold fnd cntF
    have c := cntF_in h k (p + 1) (a + f p) (by omega) (by omega)
    rcases h p p0 (by omega) with e | e
    · rw [if_pos (by simp [e])]
      constructor
      · intro z; omega
      · intro z; omega
    · rw [if_neg (by simp [e])]
      have := ih (p + 1) (a + f p) (by omega) (by omega)
      rw [this]
      constructor
      · intro z; omega
      · intro z; omega
theorem free_in {f : Int → Int} (h : freeF f ≠ -1) : (0 ≤ freeF f ∧ freeF f < 40) ∧ f (freeF f) = 0 := by
  rcases fnd_in (fun p => decide (f p = 0)) 40 0 with e | ⟨a, b, c⟩
  · exact absurd e h
  · simp only [decide_eq_true_eq] at c
    exact ⟨⟨a, by unfold freeF; omega⟩, c⟩
theorem relH_keep {σ σ' : sxS} (h : relH σ) (hP : PT σ 7 (σ 150)) (hO : rowOk (σ 150)) (hm : σ 7 4 = σ 150 480) (h6 : σ' 149 6 = 1) (e1 : σ' 17 1 = if σ 17 1 + 1 < 20 then σ 17 1 + 1 else 0) (e2 : σ' 17 2 = min 20 (σ 17 2 + 1)) (hk : ∀ k, 19 ≤ k → k ≤ 118 → (k < 19 + 5 * (σ 17 1).toNat ∨ 19 + 5 * (σ 17 1).toNat + 4 < k) → σ' k = σ k) (hc : cpd σ σ' (19 + 5 * (σ 17 1).toNat) 7) (h151 : σ' 151 = keptF (σ 151) (σ 150) (σ 149 4)) (h4 : σ' 149 4 = if σ 149 4 = 20 then 20 else σ 149 4 + 1) : relH σ' := by
  obtain ⟨b1, b2, b3, b4, b5⟩ := h
  refine ⟨?_, ?_, ?_, fun _ => h6, fun i i0 i1 => ?_⟩
  · rw [e2, h4, b1]; split <;> omega
  · rw [h4]; split <;> omega
  · rw [e1]; split <;> omega
  · rw [h4] at i1
    have hnow : ∀ g : Int → Int, agr (σ 150) g → slot (σ' 17 1) (σ' 149 4) i = 19 + 5 * (σ 17 1).toNat → PT σ' (slot (σ' 17 1) (σ' 149 4) i) g ∧ rowOk g ∧ σ' (slot (σ' 17 1) (σ' 149 4) i) 4 = g 480 := fun g hg hs => by
      rw [hs]
      refine ⟨PT_cg hg (PT_cpd hc hP), rowOk_cg hg hO, ?_⟩
      rw [hc.2.1, hm, hg 480 (by omega) (by omega)]
    have hold : ∀ (g : Int → Int) (i' : Int), 0 ≤ i' → i' < σ 149 4 → agr (fun j => σ 151 (481 * i' + j)) g → slot (σ' 17 1) (σ' 149 4) i = slot (σ 17 1) (σ 149 4) i' → ((σ 17 1 - σ 149 4 + i' + 20) % 20 ≠ σ 17 1) → PT σ' (slot (σ' 17 1) (σ' 149 4) i) g ∧ rowOk g ∧ σ' (slot (σ' 17 1) (σ' 149 4) i) 4 = g 480 := fun g i' i0' i1' hg hs hne => by
      rw [hs]
      obtain ⟨d1, d2, d3⟩ := b5 i' i0' i1'
      have hs1 : 19 ≤ slot (σ 17 1) (σ 149 4) i' ∧ slot (σ 17 1) (σ 149 4) i' + 4 ≤ 118 ∧ (slot (σ 17 1) (σ 149 4) i' + 4 < 19 + 5 * (σ 17 1).toNat ∨ 19 + 5 * (σ 17 1).toNat + 4 < slot (σ 17 1) (σ 149 4) i') := by unfold slot; omega
      refine ⟨PT_cg hg (PT_cells (fun k k1 k2 => hk k (by omega) (by omega) (by omega)) d1), rowOk_cg hg d2, ?_⟩
      rw [hk _ (by omega) (by omega) (by omega), d3]
      exact hg 480 (by omega) (by omega)
    rw [h151]
    by_cases e : σ 149 4 = 20
    · rw [if_pos e] at h4 i1
      unfold keptF
      rw [if_pos e]
      by_cases ei : i = 19
      · refine hnow _ (fun j j0 j1 => ?_) ?_
        · unfold blkF; rw [if_pos (by omega)]; congr 1; omega
        · unfold slot; rw [h4, e1]; split <;> omega
      · refine hold _ (i + 1) (by omega) (by omega) (fun j j0 j1 => ?_) ?_ ?_
        · unfold blkF shF; rw [if_neg (by omega), if_pos (by omega)]; show σ 151 (481 * (i + 1) + j) = σ 151 (481 * i + j + 481); congr 1; omega
        · unfold slot; rw [h4, e1, e]; split <;> omega
        · omega
    · rw [if_neg e] at h4 i1
      unfold keptF
      rw [if_neg e]
      by_cases ei : i = σ 149 4
      · refine hnow _ (fun j j0 j1 => ?_) ?_
        · unfold blkF; rw [if_pos (by omega)]; congr 1; omega
        · unfold slot; rw [h4, e1]; split <;> omega
      · refine hold _ i i0 (by omega) (fun j j0 j1 => ?_) ?_ ?_
        · unfold blkF; rw [if_neg (by omega)]
        · unfold slot; rw [h4, e1]; split <;> omega
        · omega
theorem Rel_pt {c d : Int} {σ σ' : sxS} (h : Rel c σ) (hcd : c ≤ d) (hk : ∀ k, ¬ scr k → ¬ ptc k → σ' k = σ k) (hf : ∀ j, j ≠ 4 → (j < 12 ∨ 25 < j) → σ' 149 j = σ 149 j) (hP : PT σ' 7 (σ' 150)) (hO : rowOk (σ' 150)) (hM : relM (σ' 149) (σ' 7 4) (σ' 150)) (hH : relH σ') (h4 : σ' 4 = σ 4) (h126 : σ' 126 = σ 126) (h156 : σ' 156 = σ 156) : Rel d σ' := by
  obtain ⟨a1, a2, a3, a4, a5, a6, a7, a8, a9, a10, a11, a12, a13⟩ := h
  have q : ∀ k, ¬ scr k → ¬ ptc k → σ' k = σ k := hk
  unfold scr ptc at q
  refine ⟨hP, hO, hM, hH, ?_, ?_, ?_, ?_, ?_, ?_, ?_, ?_, ?_⟩
  · rw [q 2 (by omega) (by omega), q 3 (by omega) (by omega), q 154 (by omega) (by omega)]; unfold relT; rw [hf 8 (by omega) (by omega)]; exact a5
  · rw [q 148 (by omega) (by omega), q 155 (by omega) (by omega)]; exact relR_w a6 hcd
  · rw [q 1 (by omega) (by omega)]; unfold relS; rw [hf 5 (by omega) (by omega)]; exact a7
  · unfold relF; rw [hf 10 (by omega) (by omega), hf 11 (by omega) (by omega), h4]; exact a8
  · rw [q 119 (by omega) (by omega), q 122 (by omega) (by omega), q 123 (by omega) (by omega), q 124 (by omega) (by omega), q 125 (by omega) (by omega), q 161 (by omega) (by omega)]; unfold relQ; rw [hf 26 (by omega) (by omega), hf 27 (by omega) (by omega), hf 28 (by omega) (by omega), hf 29 (by omega) (by omega), hf 30 (by omega) (by omega)]; exact a9
  · rw [q 141 (by omega) (by omega), q 142 (by omega) (by omega), q 143 (by omega) (by omega), q 144 (by omega) (by omega), q 166 (by omega) (by omega), q 167 (by omega) (by omega), q 168 (by omega) (by omega)]; unfold relV; rw [hf 36 (by omega) (by omega)]; exact a10
  · rw [q 146 (by omega) (by omega), q 147 (by omega) (by omega), q 169 (by omega) (by omega)]; unfold relI; rw [hf 41 (by omega) (by omega)]; exact a11
  · rw [q 119 (by omega) (by omega), h126]; exact a12
  · rw [h156]; exact a13
