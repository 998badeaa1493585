/-! what always holds of the row: kept by one that comes, by one that goes -/
def th01 (f : Int → Int) : Prop := ∀ p, 0 ≤ p → p < 40 → f p = 0 ∨ f p = 1
def invF (f : Int → Int) : Prop := th01 f ∧ wfc f ∧ tree f ∧ oneRoot f
theorem levelF_spec (f : Int → Int) (x y z : Int) : ∀ (m : Nat) (k : Int), k + m = 11 → 1 ≤ k → (levelF f x y z m k = 10 ∧ ∀ j, k ≤ j → j ≤ 10 → ¬ (near f j x y z ≠ -1 ∧ farT f (near f j x y z) x y z < 2 ^ j.toNat)) ∨ (levelF f x y z m k ≤ 9 ∧ near f (levelF f x y z m k + 1) x y z ≠ -1) := by
  intro m
  induction m with
  | zero => intro k h1 h2; exact Or.inl ⟨rfl, fun j a b => by omega⟩
  | succ m ih =>
    intro k h1 h2
    unfold levelF
    split
    · rename_i h
      refine Or.inr ⟨by omega, ?_⟩
      rw [show k - 1 + 1 = k by omega]; exact h.1
    · rename_i h
      rcases ih (k + 1) (by omega) (by omega) with ⟨a, b⟩ | c
      · refine Or.inl ⟨a, fun j j1 j2 => ?_⟩
        by_cases e : j = k
        · rw [e]; exact h
        · exact b j (by omega) j2
      · exact Or.inr c
theorem levelO_spec {f : Int → Int} {x y z : Int} (hi : invF f) (hx : in8 x) (hy : in8 y) (hz : in8 z) : 0 ≤ levelO f x y z ∧ ((levelO f x y z = 10 ∧ ∀ p, 0 ≤ p → p < 40 → f p ≠ 1) ∨ (levelO f x y z ≤ 9 ∧ near f (levelO f x y z + 1) x y z ≠ -1)) := by
  refine ⟨(levelF_in f x y z 10 1 (by omega) (by omega)).1, ?_⟩
  rcases levelF_spec f x y z 10 1 (by omega) (by omega) with ⟨a, b⟩ | c
  · refine Or.inl ⟨a, fun p p0 p1 hp => ?_⟩
    obtain ⟨r, r0, r1, r2, r3⟩ := hi.2.2.2.2 p p0 p1 hp
    have hn : near f 10 x y z ≠ -1 := near_some r0 r1 ⟨r2, by omega⟩
    refine b 10 (by omega) (by omega) ⟨hn, ?_⟩
    rcases near_in f 10 x y z with h | ⟨n0, n1, -, -⟩
    · exact absurd h hn
    · have hf : 0 ≤ farT f (near f 10 x y z) x y z ∧ farT f (near f 10 x y z) x y z ≤ 765 := farF_in (hi.2.1 _ n0 n1).1 (hi.2.1 _ n0 n1).2.1 (hi.2.1 _ n0 n1).2.2 hx hy hz
      have : (2 : Int) ^ (10 : Int).toNat = 1024 := by decide
      omega
  · exact Or.inr c
theorem comesF_n {f : Int → Int} {p x y z j : Int} (a : j ≠ p) (b : j ≠ 40 + p) (c : j ≠ 80 + p) (d : j ≠ 120 + p) (e : j ≠ 160 + p) (g : j ≠ 200 + p) : comesF f p x y z j = f j := by
  unfold comesF; rw [up1_n g, up1_n e, up1_n d, up1_n c, up1_n b, up1_n a]
theorem comesF_t {f : Int → Int} {p x y z : Int} (h0 : 0 ≤ p) (h1 : p < 40) : comesF f p x y z p = 1 ∧ comesF f p x y z (160 + p) = levelO f x y z ∧ comesF f p x y z (200 + p) = (if levelO f x y z = 10 then -1 else near f (levelO f x y z + 1) x y z) := by
  unfold comesF
  refine ⟨?_, ?_, up1_s _ _ _⟩
  · rw [up1_n (by omega), up1_n (by omega), up1_n (by omega), up1_n (by omega), up1_n (by omega), up1_s]
  · rw [up1_n (by omega), up1_s]
theorem inv_comes {f : Int → Int} {p x y z : Int} (hi : invF f) (h0 : 0 ≤ p) (h1 : p < 40) (hp : f p ≠ 1) (hx : in8 x) (hy : in8 y) (hz : in8 z) : invF (comesF f p x y z) := by
  obtain ⟨t1, t2, t3⟩ := comesF_t (f := f) (x := x) (y := y) (z := z) h0 h1
  obtain ⟨l0, hl⟩ := levelO_spec hi hx hy hz
  have ne : ∀ q, 0 ≤ q → q < 40 → q ≠ p → comesF f p x y z q = f q ∧ comesF f p x y z (160 + q) = f (160 + q) ∧ comesF f p x y z (200 + q) = f (200 + q) := fun q q0 q1 e => ⟨comesF_n (by omega) (by omega) (by omega) (by omega) (by omega) (by omega), comesF_n (by omega) (by omega) (by omega) (by omega) (by omega) (by omega), comesF_n (by omega) (by omega) (by omega) (by omega) (by omega) (by omega)⟩
  obtain ⟨a1, a2, a3, a4⟩ := hi
  refine ⟨fun q q0 q1 => ?_, wfc_comes a2 h0 h1 hx hy hz, fun q q0 q1 hq => ?_, fun q r q0 q1 r0 r1 hq hr lq lr => ?_, fun q q0 q1 hq => ?_⟩
  · by_cases e : q = p
    · subst e; exact Or.inr t1
    · rw [(ne q q0 q1 e).1]; exact a1 q q0 q1
  · by_cases e : q = p
    · subst e
      rw [t2, t3]
      rcases hl with ⟨b1, b2⟩ | ⟨b1, b2⟩
      · exact ⟨l0, by omega, fun z => by omega⟩
      · refine ⟨l0, by omega, fun _ => ?_⟩
        rw [if_neg (by omega)]
        rcases near_in f (levelO f x y z + 1) x y z with h | ⟨n0, n1, n2, n3⟩
        · exact absurd h b2
        · have en : near f (levelO f x y z + 1) x y z ≠ q := fun z => hp (by rw [← z]; exact n2)
          obtain ⟨c1, c2, c3⟩ := ne _ n0 n1 en
          rw [c1, c2]
          exact ⟨⟨n0, n1⟩, n2, by omega⟩
    · obtain ⟨c1, c2, c3⟩ := ne q q0 q1 e
      rw [c1] at hq
      obtain ⟨d1, d2, d3⟩ := a3 q q0 q1 hq
      rw [c2, c3]
      refine ⟨d1, d2, fun z => ?_⟩
      obtain ⟨⟨g0, g1⟩, g2, g3⟩ := d3 z
      have en : f (200 + q) ≠ p := fun y => hp (by rw [← y]; exact g2)
      obtain ⟨i1, i2, i3⟩ := ne _ g0 g1 en
      rw [i1, i2]
      exact ⟨⟨g0, g1⟩, g2, g3⟩
  · rcases hl with ⟨b1, b2⟩ | ⟨b1, b2⟩
    · have : ∀ w, 0 ≤ w → w < 40 → comesF f p x y z w = 1 → w = p := fun w w0 w1 hw => by
        by_cases e : w = p
        · exact e
        · rw [(ne w w0 w1 e).1] at hw; exact absurd hw (b2 w w0 w1)
      rw [this q q0 q1 hq, this r r0 r1 hr]
    · have hqp : q ≠ p := fun e => by rw [e, t2] at lq; omega
      have hrp : r ≠ p := fun e => by rw [e, t2] at lr; omega
      rw [(ne q q0 q1 hqp).1] at hq
      rw [(ne r r0 r1 hrp).1] at hr
      rw [(ne q q0 q1 hqp).2.1] at lq
      rw [(ne r r0 r1 hrp).2.1] at lr
      exact a4.1 q r q0 q1 r0 r1 hq hr lq lr
  · rcases hl with ⟨b1, b2⟩ | ⟨b1, b2⟩
    · exact ⟨p, h0, h1, t1, by rw [t2]; exact b1⟩
    · rcases near_in f (levelO f x y z + 1) x y z with h | ⟨n0, n1, n2, n3⟩
      · exact absurd h b2
      · obtain ⟨r, r0, r1, r2, r3⟩ := a4.2 _ n0 n1 n2
        have hrp : r ≠ p := fun e => hp (by rw [← e]; exact r2)
        exact ⟨r, r0, r1, by rw [(ne r r0 r1 hrp).1]; exact r2, by rw [(ne r r0 r1 hrp).2.1]; exact r3⟩
/-- as tree, but for those of a list, which wait for their parents -/
def treeX (f : Int → Int) (L : List Int) : Prop := ∀ p, 0 ≤ p → p < 40 → f p = 1 → 0 ≤ f (160 + p) ∧ f (160 + p) ≤ 10 ∧ (p ∉ L → f (160 + p) < 10 → (0 ≤ f (200 + p) ∧ f (200 + p) < 40) ∧ f (f (200 + p)) = 1 ∧ f (160 + p) < f (160 + f (200 + p)))
theorem rises_spec {r : Int} (r0 : 0 ≤ r) (r1 : r < 40) : ∀ (L : List Int) (f : Int → Int), th01 f → wfc f → treeX f L → lstOk f L → r ∉ L → f r = 1 → f (160 + r) = 10 → (∀ p, 0 ≤ p → p < 40 → f p = 1 → f (160 + p) = 10 → p = r) → invF (risesF f L) ∧ ∀ q, 0 ≤ q → q < 40 → risesF f L q = f q := by
  intro L
  induction L with
  | nil =>
    intro f h1 h2 h3 h4 h5 h6 h7 h8
    refine ⟨⟨h1, h2, fun p p0 p1 hp => ?_, fun p q p0 p1 q0 q1 hp hq lp lq => ?_, fun p p0 p1 hp => ⟨r, r0, r1, h6, h7⟩⟩, fun q _ _ => rfl⟩
    · obtain ⟨a, b, c⟩ := h3 p p0 p1 hp
      exact ⟨a, b, c List.not_mem_nil⟩
    · rw [h8 p p0 p1 hp lp, h8 q q0 q1 hq lq]
  | cons q L ih =>
    intro f h1 h2 h3 h4 h5 h6 h7 h8
    obtain ⟨⟨q0, q1⟩, q2, q3, q4⟩ := h4.2 q List.mem_cons_self
    have hqr : q ≠ r := fun z => h5 (by rw [z]; exact List.mem_cons_self)
    obtain ⟨a1, a2, a3, a4, a5, a6, a7⟩ := rise_spec q0 q1 r0 r1 hqr h2 h6 (by omega) q3 q4
    have nd := List.nodup_cons.mp h4.1
    have hth : ∀ w, 0 ≤ w → w < 40 → rise f q w = f w := fun w w0 w1 => a1 w (by omega) (by omega)
    have hlv : ∀ w, 0 ≤ w → w < 40 → w ≠ q → rise f q (160 + w) = f (160 + w) ∧ rise f q (200 + w) = f (200 + w) := fun w w0 w1 e => ⟨a1 _ (by omega) (by omega), a1 _ (by omega) (by omega)⟩
    have key : invF (risesF (rise f q) L) ∧ ∀ w, 0 ≤ w → w < 40 → risesF (rise f q) L w = rise f q w := by
      refine ih (rise f q) (fun w w0 w1 => by rw [hth w w0 w1]; exact h1 w w0 w1) (wfc_rise q0 q1 r0 r1 hqr h2 h6 (by omega) q3 q4) (fun w w0 w1 hw => ?_) ⟨nd.2, fun w hw => ?_⟩ (fun z => h5 (List.mem_cons_of_mem _ z)) (by rw [hth r r0 r1]; exact h6) (by rw [(hlv r r0 r1 (fun z => hqr z.symm)).1]; exact h7) (fun w w0 w1 hw lw => ?_)
      · rw [hth w w0 w1] at hw
        by_cases e : w = q
        · subst e
          refine ⟨by omega, by omega, fun _ _ => ⟨a4, ?_, ?_⟩⟩
          · rw [hth _ a4.1 a4.2]; exact a5
          · rw [(hlv _ a4.1 a4.2 a6).1]; exact a7
        · obtain ⟨c1, c2, c3⟩ := h3 w w0 w1 hw
          obtain ⟨d1, d2⟩ := hlv w w0 w1 e
          rw [d1, d2]
          refine ⟨c1, c2, fun hwL hl => ?_⟩
          obtain ⟨e1, e2, e3⟩ := c3 (fun z => by rcases List.mem_cons.mp z with z | z; exact e z; exact hwL z) hl
          rw [hth _ e1.1 e1.2]
          refine ⟨e1, e2, ?_⟩
          by_cases ez : f (200 + w) = q
          · rw [ez] at e3 ⊢; omega
          · rw [(hlv _ e1.1 e1.2 ez).1]; exact e3
      · obtain ⟨⟨w0, w1⟩, w2, w3, w4⟩ := h4.2 w (List.mem_cons_of_mem _ hw)
        have hwq : w ≠ q := fun y => nd.1 (by rw [← y]; exact hw)
        rw [hth w w0 w1, (hlv w w0 w1 hwq).1]
        exact ⟨⟨w0, w1⟩, w2, w3, w4⟩
      · rw [hth w w0 w1] at hw
        by_cases e : w = q
        · subst e; omega
        · rw [(hlv w w0 w1 e).1] at lw
          exact h8 w w0 w1 hw lw
    exact ⟨key.1, fun w w0 w1 => by show risesF (rise f q) L w = f w; rw [key.2 w w0 w1, hth w w0 w1]⟩
theorem markF_p : ∀ (L : List Int) (f : Int → Int) (w : Int), w ∉ L → (∀ q ∈ L, 0 ≤ q ∧ q < 40) → 0 ≤ w → w < 40 → markF f L (200 + w) = f (200 + w) := by
  intro L
  induction L with
  | nil => intro f w _ _ _ _; rfl
  | cons q L ih =>
    intro f w hw hL w0 w1
    have hwq : w ≠ q := fun e => hw (by rw [e]; exact List.mem_cons_self)
    show markF (up1 f (200 + q) 1000000) L (200 + w) = f (200 + w)
    rw [ih _ w (fun z => hw (List.mem_cons_of_mem _ z)) (fun z hz => hL z (List.mem_cons_of_mem _ hz)) w0 w1, up1_n (by omega)]
theorem kq_in {f : Int → Int} {g lv q : Int} (h : f q = 1 ∧ f (160 + q) = lv ∧ f (200 + q) = g) : ∀ (k : Nat) (p : Int), p ≤ q → q < p + k → q ∈ kq f g lv k p := by
  intro k
  induction k with
  | zero => intro p h1 h2; exfalso; simp at h2; omega
  | succ k ih =>
    intro p h1 h2
    unfold kq
    by_cases e : p = q
    · subst e; rw [if_pos h]; exact List.mem_cons_self
    · have := ih (p + 1) (by omega) (by omega)
      split
      · exact List.mem_cons_of_mem _ this
      · exact this
theorem kids_in {f : Int → Int} {g q : Int} (q0 : 0 ≤ q) (q1 : q < 40) (h : f q = 1 ∧ f (200 + q) = g) (hl : 0 ≤ f (160 + q)) (hl' : f (160 + q) ≤ 9) : q ∈ kids f g := by
  have : ∀ (m : Nat) (lv : Int), f (160 + q) ≤ lv → lv - m < f (160 + q) → q ∈ kl f g m lv := by
    intro m
    induction m with
    | zero => intro lv h1 h2; exfalso; simp at h2; omega
    | succ m ih =>
      intro lv h1 h2
      unfold kl
      by_cases e : f (160 + q) = lv
      · exact List.mem_append_left _ (kq_in ⟨h.1, e, h.2⟩ 40 0 q0 (by omega))
      · exact List.mem_append_right _ (ih (lv - 1) (by omega) (by omega))
  exact this 10 9 hl' (by omega)
theorem inv_goes {f : Int → Int} {g : Int} (hi : invF f) (g0 : 0 ≤ g) (g1 : g < 40) (hg : f g = 1) : invF (goesF f g) ∧ (∀ q, 0 ≤ q → q < 40 → goesF f g q = if q = g then 0 else f q) := by
  obtain ⟨i1, i2, i3, i4⟩ := hi
  unfold goesF
  generalize hL : kids (up1 f g 0) g = L
  have hmem : ∀ q ∈ L, (0 ≤ q ∧ q < 40) ∧ q ≠ g ∧ f q = 1 ∧ 0 ≤ f (160 + q) ∧ f (160 + q) ≤ 9 := by
    intro q hq
    rw [← hL] at hq
    obtain ⟨a, b, c, d, -⟩ := kids_mem hq
    have hqg : q ≠ g := fun e => by rw [e, up1_s] at b; cases b
    rw [up1_n hqg] at b
    rw [up1_n (by omega)] at c d
    exact ⟨a, hqg, b, c, d⟩
  have hin : ∀ q, 0 ≤ q → q < 40 → q ≠ g → f q = 1 → f (160 + q) < 10 → f (200 + q) = g → q ∈ L := fun q q0 q1 e h1 h2 h3 => by
    rw [← hL]
    exact kids_in q0 q1 ⟨by rw [up1_n e]; exact h1, by rw [up1_n (by omega)]; exact h3⟩ (by rw [up1_n (by omega)]; exact (i3 q q0 q1 h1).1) (by rw [up1_n (by omega)]; omega)
  have hnd : L.Nodup := by rw [← hL]; exact kids_nd
  have hm1 : ∀ j, (j < 200 ∨ 240 ≤ j) → markF (up1 f g 0) L j = if j = g then 0 else f j := fun j hj => by
    rw [markF_n (f := f) L _ j hj (fun q hq => (hmem q hq).1)]; rfl
  have hm2 : ∀ w, 0 ≤ w → w < 40 → w ∉ L → markF (up1 f g 0) L (200 + w) = f (200 + w) := fun w w0 w1 hw => by rw [markF_p L _ w hw (fun q hq => (hmem q hq).1) w0 w1, up1_n (by omega)]
  generalize markF (up1 f g 0) L = h at hm1 hm2
  have ht : th01 h := fun p p0 p1 => by
    rw [hm1 p (by omega)]; split
    · exact Or.inl rfl
    · exact i1 p p0 p1
  have hwf : wfc h := fun q q0 q1 => by
    have := i2 q q0 q1
    rw [hm1 _ (by omega), hm1 _ (by omega), hm1 _ (by omega), if_neg (by omega), if_neg (by omega), if_neg (by omega)]
    exact this
  have hth : ∀ q, 0 ≤ q → q < 40 → h q = 1 → q ≠ g ∧ f q = 1 := fun q q0 q1 hq => by
    rw [hm1 q (by omega)] at hq
    split at hq
    · cases hq
    · exact ⟨by assumption, hq⟩
  have hlv : ∀ q, 0 ≤ q → q < 40 → h (160 + q) = f (160 + q) := fun q q0 q1 => by rw [hm1 _ (by omega), if_neg (by omega)]
  have htx : treeX h L := fun p p0 p1 hp => by
    obtain ⟨hpg, hp1⟩ := hth p p0 p1 hp
    obtain ⟨a, b, c⟩ := i3 p p0 p1 hp1
    rw [hlv p p0 p1]
    refine ⟨a, b, fun hpL hl => ?_⟩
    obtain ⟨d, e, k⟩ := c hl
    have hz : f (200 + p) ≠ g := fun z => hpL (hin p p0 p1 hpg hp1 hl z)
    rw [hm2 p p0 p1 hpL, hm1 _ (by omega), if_neg hz, hlv _ d.1 d.2]
    exact ⟨d, e, k⟩
  have hok : lstOk h L := ⟨hnd, fun q hq => by
    obtain ⟨a, b, c, d, e⟩ := hmem q hq
    rw [hm1 q (by omega), if_neg b, hlv q a.1 a.2]
    exact ⟨a, c, d, e⟩⟩
  by_cases hroot : f (160 + g) = 10
  · rw [if_pos hroot]
    have hlow : ∀ p, 0 ≤ p → p < 40 → h p = 1 → f (160 + p) ≤ 9 := fun p p0 p1 hp => by
      obtain ⟨hpg, hp1⟩ := hth p p0 p1 hp
      have := (i3 p p0 p1 hp1).2.1
      by_cases e : f (160 + p) = 10
      · exact absurd (i4.1 p g p0 p1 g0 g1 hp1 hg e hroot) hpg
      · omega
    cases L with
    | nil =>
      have none_left : ∀ (m : Nat) (p : Int), 0 ≤ p → p < 40 → h p = 1 → f (160 + p) + m = 10 → False := by
        intro m
        induction m with
        | zero => intro p p0 p1 hp hm; have := hlow p p0 p1 hp; simp at hm; omega
        | succ m ih =>
          intro p p0 p1 hp hm
          obtain ⟨a, b, c⟩ := htx p p0 p1 hp
          rw [hlv p p0 p1] at a b c
          obtain ⟨d, e, k⟩ := c List.not_mem_nil (by omega)
          rw [hlv _ d.1 d.2] at k
          have hb := hlow _ d.1 d.2 e
          -- go up until the highest
          have : ∀ (j : Nat) (q : Int), 0 ≤ q → q < 40 → h q = 1 → 10 ≤ f (160 + q) + j → False := by
            intro j
            induction j with
            | zero => intro q q0 q1 hq hj; have := hlow q q0 q1 hq; simp at hj; omega
            | succ j ih2 =>
              intro q q0 q1 hq hj
              obtain ⟨a', b', c'⟩ := htx q q0 q1 hq
              have hl' := hlow q q0 q1 hq
              rw [hlv q q0 q1] at c'
              obtain ⟨d', e', k'⟩ := c' List.not_mem_nil (by omega)
              rw [hlv _ d'.1 d'.2] at k'
              exact ih2 _ d'.1 d'.2 e' (by omega)
          exact this 10 p p0 p1 hp (by omega)
      have no : ∀ p, 0 ≤ p → p < 40 → h p = 1 → False := fun p p0 p1 hp => by
        have h1 := htx p p0 p1 hp
        rw [hlv p p0 p1] at h1
        exact none_left (10 - f (160 + p)).toNat p p0 p1 hp (by omega)
      exact ⟨⟨ht, hwf, fun p p0 p1 hp => (no p p0 p1 hp).elim, fun p q p0 p1 _ _ hp => (no p p0 p1 hp).elim, fun p p0 p1 hp => (no p p0 p1 hp).elim⟩, fun q q0 q1 => hm1 q (by omega)⟩
    | cons q R =>
      have hge : goesL h 1 (q :: R) = risesF (up1 (up1 h (160 + q) 10) (200 + q) (-1)) R := by rw [goesL, if_pos rfl]
      rw [hge]
      obtain ⟨⟨q0, q1⟩, qg, q2, q3, q4⟩ := hmem q List.mem_cons_self
      have nd := List.nodup_cons.mp hnd
      have u1 : ∀ w, 0 ≤ w → w < 40 → up1 (up1 h (160 + q) 10) (200 + q) (-1) w = h w := fun w w0 w1 => by rw [up1_n (by omega), up1_n (by omega)]
      have u2 : ∀ w, 0 ≤ w → w < 40 → w ≠ q → up1 (up1 h (160 + q) 10) (200 + q) (-1) (160 + w) = h (160 + w) ∧ up1 (up1 h (160 + q) 10) (200 + q) (-1) (200 + w) = h (200 + w) := fun w w0 w1 e => ⟨by rw [up1_n (by omega), up1_n (by omega)], by rw [up1_n (by omega), up1_n (by omega)]⟩
      have u3 : up1 (up1 h (160 + q) 10) (200 + q) (-1) (160 + q) = 10 := by rw [up1_n (by omega), up1_s]
      have key := rises_spec q0 q1 R (up1 (up1 h (160 + q) 10) (200 + q) (-1)) (fun w w0 w1 => by rw [u1 w w0 w1]; exact ht w w0 w1) (wfc_up (wfc_up hwf (by omega)) (by omega)) (fun w w0 w1 hw => by
        rw [u1 w w0 w1] at hw
        by_cases e : w = q
        · subst e; rw [u3]; exact ⟨by omega, by omega, fun _ z => by omega⟩
        · obtain ⟨a, b, c⟩ := htx w w0 w1 hw
          rw [(u2 w w0 w1 e).1, (u2 w w0 w1 e).2]
          refine ⟨a, b, fun hwR hl => ?_⟩
          obtain ⟨d1, d2, d3⟩ := c (fun z => by rcases List.mem_cons.mp z with z | z; exact e z; exact hwR z) hl
          rw [u1 _ d1.1 d1.2]
          refine ⟨d1, d2, ?_⟩
          by_cases ez : h (200 + w) = q
          · rw [ez, u3]; omega
          · rw [(u2 _ d1.1 d1.2 ez).1]; exact d3) ⟨nd.2, fun z hz => by
        obtain ⟨a, b, c, d⟩ := hok.2 z (List.mem_cons_of_mem _ hz)
        have hzq : z ≠ q := fun y => nd.1 (by rw [← y]; exact hz)
        rw [u1 z a.1 a.2, (u2 z a.1 a.2 hzq).1]
        exact ⟨a, b, c, d⟩⟩ nd.1 (by rw [u1 q q0 q1, hm1 q (by omega), if_neg qg]; exact q2) u3 (fun w w0 w1 hw lw => by
        rw [u1 w w0 w1] at hw
        by_cases e : w = q
        · exact e
        · rw [(u2 w w0 w1 e).1, hlv w w0 w1] at lw
          have := hlow w w0 w1 hw
          omega)
      exact ⟨key.1, fun w w0 w1 => by rw [key.2 w w0 w1, u1 w w0 w1]; exact hm1 w (by omega)⟩
  · rw [if_neg hroot]
    obtain ⟨r, r0, r1, r2, r3⟩ := i4.2 g g0 g1 hg
    have hrg : r ≠ g := fun e => hroot (by rw [← e]; exact r3)
    have hge : goesL h 0 L = risesF h L := by
      cases L with
      | nil => rfl
      | cons q R => rw [goesL, if_neg (by omega)]
    rw [hge]
    have key := rises_spec r0 r1 L h ht hwf htx hok (fun hr => by have := hmem r hr; omega) (by rw [hm1 r (by omega), if_neg hrg]; exact r2) (by rw [hlv r r0 r1]; exact r3) (fun p p0 p1 hp lp => by
      obtain ⟨hpg, hp1⟩ := hth p p0 p1 hp
      rw [hlv p p0 p1] at lp
      exact i4.1 p r p0 p1 r0 r1 hp1 r2 lp r3)
    exact ⟨key.1, fun w w0 w1 => by rw [key.2 w w0 w1]; exact hm1 w (by omega)⟩
