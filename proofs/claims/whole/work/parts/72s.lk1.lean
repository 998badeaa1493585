/-! links: pairs as numbers, sets that are closed, groups joined -/
theorem xor_cm (a b : Int) : sx_xor a b = sx_xor b a := by unfold sx_xor; rw [Int32.xor_comm]
theorem abs_cm (a b : Int) : absF (a - b) = absF (b - a) := by unfold absF; split <;> split <;> omega
theorem farO_cm (f : Int → Int) (p q : Int) : farO f p q = farO f q p := by
  unfold farO farT farF
  rw [xor_cm (f (40 + p)), xor_cm (f (80 + p)), xor_cm (f (120 + p)), abs_cm (f (40 + p)), abs_cm (f (80 + p)), abs_cm (f (120 + p))]
/-- a point that is there -/
def thr (f : Int → Int) (p : Int) : Prop := (0 ≤ p ∧ p < 40) ∧ f p = 1
/-- two points as one number -/
def wE (f : Int → Int) (u v : Int) : Int := pkP (min u v) (max u v) (farO f u v)
theorem wE_cm (f : Int → Int) (u v : Int) : wE f u v = wE f v u := by
  unfold wE; rw [farO_cm f u v, Int.min_comm, Int.max_comm]
theorem wE_lt {f : Int → Int} {u v : Int} (h : u ≤ v) : wE f u v = 4096 * farO f u v + 64 * u + v := by
  unfold wE pkP
  rw [show min u v = u by omega, show max u v = v by omega]
theorem wE_in {f : Int → Int} (hw : wfc f) {u v : Int} (hu : thr f u) (hv : thr f v) (h : u ≤ v) : (0 ≤ wE f u v ∧ wE f u v < 4194304) ∧ wE f u v / 64 % 64 = u ∧ wE f u v % 64 = v ∧ wE f u v / 4096 = farO f u v := by
  have := farO_in hw hu.1.1 hu.1.2 hv.1.1 hv.1.2
  obtain ⟨⟨u0, u1⟩, _⟩ := hu
  obtain ⟨⟨v0, v1⟩, _⟩ := hv
  rw [wE_lt h]
  omega
theorem wE_inj {f : Int → Int} (hw : wfc f) {u v a b : Int} (hu : thr f u) (hv : thr f v) (ha : thr f a) (hb : thr f b) (h1 : u ≤ v) (h2 : a ≤ b) (h : wE f u v = wE f a b) : u = a ∧ v = b := by
  have e1 := wE_in hw hu hv h1
  have e2 := wE_in hw ha hb h2
  rw [h] at e1
  omega
/-- closed: no pair less than w leads out -/
def clo (f : Int → Int) (w : Int) (X : Int → Prop) : Prop := ∀ u v, thr f u → thr f v → wE f u v < w → X u → X v
theorem clo_m {f : Int → Int} {w w' : Int} {X : Int → Prop} (h : clo f w' X) (hw : w ≤ w') : clo f w X := fun u v hu hv hl => h u v hu hv (by omega)
def edg (f : Int → Int) (w : Int) : Prop := ∃ a b, thr f a ∧ thr f b ∧ a < b ∧ w = wE f a b
def sep (f : Int → Int) (w : Int) : Prop := ∃ X : Int → Prop, clo f w X ∧ ∀ a b, thr f a → thr f b → a < b → w = wE f a b → ¬ (X a ↔ X b)
/-- two groups joined -/
def jn (g : Int → Int) (a b : Int) : Int → Int := fun p => if g p = max (g a) (g b) then min (g a) (g b) else g p
def jnW (g : Int → Int) (w : Int) : Int → Int := jn g (w / 64 % 64) (w % 64)
def mgL : List Int → (Int → Int) → (Int → Int)
  | [], g => g
  | w :: l, g => mgL l (jnW g w)
def grp (f g : Int → Int) : Prop := ∀ p, thr f p → thr f (g p) ∧ g (g p) = g p
def resp (f g : Int → Int) (w : Int) : Prop := ∀ X : Int → Prop, clo f w X → ∀ p q, thr f p → thr f q → g p = g q → (X p ↔ X q)
theorem resp_m {f g : Int → Int} {w w' : Int} (h : resp f g w) (hw : w ≤ w') : resp f g w' := fun X hX => h X (clo_m hX hw)
def rp (f g : Int → Int) : Int → Int := fun p => if f p = 1 ∧ g p = p then 1 else 0
theorem rp01 (f g : Int → Int) : th01 (rp f g) := fun p _ _ => by unfold rp; split <;> omega
theorem jn_cs {g : Int → Int} {a b : Int} (hab : g a ≠ g b) (p : Int) : (g p = max (g a) (g b) ∧ jn g a b p = min (g a) (g b)) ∨ (g p ≠ max (g a) (g b) ∧ jn g a b p = g p) := by
  unfold jn
  by_cases e : g p = max (g a) (g b)
  · exact Or.inl ⟨e, if_pos e⟩
  · exact Or.inr ⟨e, if_neg e⟩
theorem jn_grp {f g : Int → Int} {a b : Int} (hg : grp f g) (ha : thr f a) (hb : thr f b) (hab : g a ≠ g b) : grp f (jn g a b) := by
  have low : thr f (min (g a) (g b)) ∧ g (min (g a) (g b)) = min (g a) (g b) := by
    by_cases e : g a ≤ g b
    · rw [show min (g a) (g b) = g a by omega]; exact hg a ha
    · rw [show min (g a) (g b) = g b by omega]; exact hg b hb
  have jl : jn g a b (min (g a) (g b)) = min (g a) (g b) := by
    rcases jn_cs hab (min (g a) (g b)) with ⟨e1, e2⟩ | ⟨e1, e2⟩
    · exact e2
    · rw [e2, low.2]
  intro p hp
  obtain ⟨p1, p2⟩ := hg p hp
  rcases jn_cs hab p with ⟨e1, e2⟩ | ⟨e1, e2⟩
  · rw [e2]; exact ⟨low.1, jl⟩
  · rw [e2]
    refine ⟨p1, ?_⟩
    rcases jn_cs hab (g p) with ⟨d1, d2'⟩ | ⟨d1, d2'⟩
    · rw [p2] at d1; exact absurd d1 e1
    · rw [d2', p2]
theorem jn_cnt {f g : Int → Int} {a b : Int} (hg : grp f g) (ha : thr f a) (hb : thr f b) (hab : g a ≠ g b) : cntF (rp f (jn g a b)) 40 0 0 = cntF (rp f g) 40 0 0 + -1 := by
  have hi : thr f (max (g a) (g b)) ∧ g (max (g a) (g b)) = max (g a) (g b) := by
    by_cases e : g a ≤ g b
    · rw [show max (g a) (g b) = g b by omega]; exact hg b hb
    · rw [show max (g a) (g b) = g a by omega]; exact hg a ha
  have low : thr f (min (g a) (g b)) ∧ g (min (g a) (g b)) = min (g a) (g b) := by
    by_cases e : g a ≤ g b
    · rw [show min (g a) (g b) = g a by omega]; exact hg a ha
    · rw [show min (g a) (g b) = g b by omega]; exact hg b hb
  refine cntF_one (r := max (g a) (g b)) ?_ 40 0 0 hi.1.1.1 (by have := hi.1.1.2; omega) (fun q q0 q1 hq => ?_)
  · have e : jn g a b (max (g a) (g b)) = min (g a) (g b) := by
      rcases jn_cs hab (max (g a) (g b)) with ⟨_, e2⟩ | ⟨e1, _⟩
      · exact e2
      · exact absurd hi.2 e1
    unfold rp
    rw [e, if_neg (by omega), if_pos ⟨hi.1.2, hi.2⟩]
    rfl
  · unfold rp
    rcases jn_cs hab q with ⟨e1, e2⟩ | ⟨e1, e2⟩
    · rw [e2, if_neg (fun z => by
        have z2 := z.2
        rw [← z2] at e1
        rw [low.2] at e1
        omega), if_neg (fun z => by rw [z.2] at e1; exact hq e1)]
    · rw [e2]
theorem jn_resp {f g : Int → Int} {a b w : Int} (hr : resp f g w) (ha : thr f a) (hb : thr f b) (hab : g a ≠ g b) (hl : wE f a b < w) : resp f (jn g a b) w := by
  intro X hX p q hp hq he
  have xab : X a ↔ X b := ⟨hX a b ha hb hl, hX b a hb ha (by rw [wE_cm]; exact hl)⟩
  have key : ∀ r, thr f r → (g r = g a ∨ g r = g b) → (X r ↔ X a) := fun r hr' hrr => by
    rcases hrr with e | e
    · exact hr X hX r a hr' ha e
    · exact (hr X hX r b hr' hb e).trans xab.symm
  rcases jn_cs hab p with ⟨e1, e2⟩ | ⟨e1, e2⟩
  · rcases jn_cs hab q with ⟨d1, d2'⟩ | ⟨d1, d2'⟩
    · exact (key p hp (by omega)).trans (key q hq (by omega)).symm
    · rw [e2, d2'] at he
      exact (key p hp (by omega)).trans (key q hq (by omega)).symm
  · rcases jn_cs hab q with ⟨d1, d2'⟩ | ⟨d1, d2'⟩
    · rw [e2, d2'] at he
      exact (key p hp (by omega)).trans (key q hq (by omega)).symm
    · rw [e2, d2'] at he
      exact hr X hX p q hp hq he
/-- pairs in their order, each with a closed set that parts it -/
def incM (f : Int → Int) : List Int → Int → Prop
  | [], _ => True
  | w :: l, lo => lo < w ∧ edg f w ∧ sep f w ∧ incM f l w
def incC (f : Int → Int) : List Int → Int → Int → Prop
  | [], lo, hi => lo = hi
  | w :: l, lo, hi => lo < w ∧ edg f w ∧ sep f w ∧ incC f l w hi
theorem incC_M {f : Int → Int} : ∀ (l1 l2 : List Int) (a b : Int), incC f l1 a b → incM f l2 b → incM f (l1 ++ l2) a := by
  intro l1
  induction l1 with
  | nil => intro l2 a b h1 h2; cases h1; exact h2
  | cons w l ih => intro l2 a b h1 h2; exact ⟨h1.1, h1.2.1, h1.2.2.1, ih l2 w b h1.2.2.2 h2⟩
theorem incC_s {f : Int → Int} : ∀ (l1 : List Int) (a b w : Int), incC f l1 a b → b < w → edg f w → sep f w → incC f (l1 ++ [w]) a w := by
  intro l1
  induction l1 with
  | nil => intro a b w h1 h2 h3 h4; cases h1; exact ⟨h2, h3, h4, rfl⟩
  | cons x l ih => intro a b w h1 h2 h3 h4; exact ⟨h1.1, h1.2.1, h1.2.2.1, ih x b w h1.2.2.2 h2 h3 h4⟩
theorem edg_pr {f g : Int → Int} (hw : wfc f) {w lo : Int} (he : edg f w) (hs : sep f w) (hr : resp f g (lo + 1)) (hl : lo < w) : ∃ a b, thr f a ∧ thr f b ∧ a < b ∧ w = wE f a b ∧ w / 64 % 64 = a ∧ w % 64 = b ∧ w / 4096 = farO f a b ∧ g a ≠ g b := by
  obtain ⟨a, b, ha, hb, hab, rfl⟩ := he
  obtain ⟨X, hX, h2⟩ := hs
  obtain ⟨e0, e1, e2, e3⟩ := wE_in hw ha hb (by omega)
  exact ⟨a, b, ha, hb, hab, rfl, e1, e2, e3, fun z => h2 a b ha hb hab rfl (resp_m hr (by omega) X hX a b ha hb z)⟩
theorem lenM {f : Int → Int} (hw : wfc f) : ∀ (l : List Int) (lo : Int) (g : Int → Int), grp f g → resp f g (lo + 1) → incM f l lo → cntF (rp f (mgL l g)) 40 0 0 + l.length = cntF (rp f g) 40 0 0 ∧ grp f (mgL l g) := by
  intro l
  induction l with
  | nil => intro lo g hg hr hi; exact ⟨by rw [List.length_nil]; show cntF (rp f g) 40 0 0 + ((0 : Nat) : Int) = _; omega, hg⟩
  | cons w l ih =>
    intro lo g hg hr hi
    obtain ⟨i1, i2, i3, i4⟩ := hi
    obtain ⟨a, b, ha, hb, hab, e, e1, e2, e3, hn⟩ := edg_pr hw i2 i3 hr i1
    have r2 : resp f (jn g a b) (w + 1) := jn_resp (resp_m hr (by omega)) ha hb hn (by omega)
    have ej : jnW g w = jn g a b := by unfold jnW; rw [e1, e2]
    have nx := ih w (jn g a b) (jn_grp hg ha hb hn) r2 i4
    have cn := jn_cnt hg ha hb hn
    unfold mgL
    rw [ej, List.length_cons]
    exact ⟨by omega, nx.2⟩
theorem rp_pos {f g : Int → Int} (hg : grp f g) {p : Int} (hp : thr f p) : 1 ≤ cntF (rp f g) 40 0 0 := by
  rcases cntF_ex (rp01 f g) 40 0 0 (by omega) (by omega) with h | h
  · omega
  · obtain ⟨p1, p2⟩ := hg p hp
    have := h (g p) p1.1.1 p1.1.2
    unfold rp at this
    rw [if_pos ⟨p1.2, p2⟩] at this
    omega
theorem rp_id {f : Int → Int} (h01 : th01 f) : cntF (rp f (fun p => p)) 40 0 0 = cntF f 40 0 0 := by
  refine cntF_congr 40 0 0 (fun q q0 q1 => ?_)
  unfold rp
  rcases h01 q q0 (by omega) with e | e
  · rw [if_neg (by omega), e]
  · rw [if_pos ⟨e, rfl⟩, e]
theorem grp_id (f : Int → Int) : grp f (fun p => p) := fun p hp => ⟨hp, rfl⟩
theorem resp_id (f : Int → Int) (w : Int) : resp f (fun p => p) w := fun X _ p q _ _ h => by
  have h' : p = q := h
  rw [h']
theorem mgL_ap : ∀ (l1 l2 : List Int) (g : Int → Int), mgL (l1 ++ l2) g = mgL l2 (mgL l1 g) := by
  intro l1
  induction l1 with
  | nil => intro l2 g; rfl
  | cons w l ih => intro l2 g; exact ih l2 (jnW g w)
/-- where the joining stands: l1 joined, l2 to come -/
def kSt (f : Int → Int) (l1 l2 : List Int) (lo : Int) (g : Int → Int) : Prop := incC f l1 (-1) lo ∧ incM f l2 lo ∧ g = mgL l1 (fun p => p) ∧ grp f g ∧ resp f g (lo + 1) ∧ (∀ u v, thr f u → thr f v → wE f u v ≤ lo → g u = g v)
theorem wE_nn {f : Int → Int} (hw : wfc f) {u v : Int} (hu : thr f u) (hv : thr f v) : 0 ≤ wE f u v := by
  by_cases e : u ≤ v
  · exact (wE_in hw hu hv e).1.1
  · rw [wE_cm]; exact (wE_in hw hv hu (by omega)).1.1
theorem kSt_0 {f : Int → Int} (hw : wfc f) {l : List Int} (h : incM f l (-1)) : kSt f [] l (-1) (fun p => p) := ⟨rfl, h, rfl, grp_id f, resp_id f _, fun u v hu hv z => by have := wE_nn hw hu hv; omega⟩
/-- the nearest pair not joined is the next one -/
theorem kSt_s {f : Int → Int} (h01 : th01 f) (hw : wfc f) {l1 l2 : List Int} {lo len a b : Int} {g : Int → Int} (h : kSt f l1 l2 lo g) (hc : ((l1 ++ l2).length : Int) + 1 = cntF f 40 0 0) (ha : thr f a) (hb : thr f b) (hab : a < b) (hn : g a ≠ g b) (hl : farO f a b ≤ len) (hm : ∀ u v, thr f u → thr f v → u < v → g u ≠ g v → farO f u v ≤ len → wE f a b ≤ wE f u v) : ∃ l2', l2 = wE f a b :: l2' ∧ kSt f (l1 ++ [wE f a b]) l2' (wE f a b) (jn g a b) := by
  obtain ⟨k1, k2, k3, k4, k5, k6⟩ := h
  have eab := wE_in hw ha hb (by omega)
  have mm : ∀ u v, thr f u → thr f v → wE f u v < wE f a b → g u = g v := fun u v hu hv hlt => by
    apply Classical.byContradiction
    intro hne
    rcases (show u < v ∨ v < u ∨ u = v by omega) with z | z | z
    · have e := wE_in hw hu hv (by omega)
      have := hm u v hu hv z hne (by omega)
      omega
    · have e := wE_in hw hv hu (by omega)
      rw [wE_cm] at hlt
      have := hm v u hv hu z (fun y => hne y.symm) (by omega)
      omega
    · rw [z] at hne; exact hne rfl
  have hE : edg f (wE f a b) := ⟨a, b, ha, hb, hab, rfl⟩
  have hS : sep f (wE f a b) := ⟨fun p => g p = g a, fun u v hu hv hlt hx => by
    have := mm u v hu hv hlt
    show g v = g a
    rw [← this]; exact hx, fun a' b' ha' hb' hab' he hx => by
    obtain ⟨rfl, rfl⟩ := wE_inj hw ha hb ha' hb' (by omega) (by omega) he
    exact hn (hx.mp rfl).symm⟩
  have hlo : lo < wE f a b := by
    apply Classical.byContradiction
    intro z
    exact hn (k6 a b ha hb (by omega))
  have bad : ∀ l2', incM f l2' (wE f a b) → l2'.length = l2.length → False := fun l2' hi hlen => by
    have iA := incC_M _ _ _ _ (incC_s l1 (-1) lo _ k1 hlo hE hS) hi
    have q := lenM hw _ (-1) _ (grp_id f) (resp_id f _) iA
    have p := rp_pos q.2 ha
    rw [rp_id h01] at q
    have q1 := q.1
    rw [List.length_append, List.length_append, List.length_cons, List.length_nil] at q1
    rw [List.length_append] at hc
    omega
  cases l2 with
  | nil => exact (bad [] trivial rfl).elim
  | cons w l2' =>
    obtain ⟨i1, i2, i3, i4⟩ := k2
    have ew : w = wE f a b := by
      rcases (show wE f a b < w ∨ w < wE f a b ∨ w = wE f a b by omega) with z | z | z
      · exact (bad (w :: l2') ⟨z, i2, i3, i4⟩ rfl).elim
      · obtain ⟨c, d, hc', hd, hcd, e, e1, e2, e3, hne⟩ := edg_pr hw i2 i3 k5 i1
        have := hm c d hc' hd hcd hne (by omega)
        omega
      · exact z
    subst ew
    refine ⟨l2', rfl, incC_s l1 (-1) lo _ k1 hlo hE hS, i4, ?_, jn_grp k4 ha hb hn, jn_resp (resp_m k5 (by omega)) ha hb hn (by omega), fun u v hu hv hle => ?_⟩
    · rw [mgL_ap, ← k3]
      show jn g a b = jnW g (wE f a b)
      unfold jnW
      rw [eab.2.1, eab.2.2.1]
    · by_cases z : wE f u v < wE f a b
      · have e := mm u v hu hv z
        unfold jn
        rw [e]
      · have ez : wE f u v = wE f a b := by omega
        have same : (u = a ∧ v = b) ∨ (u = b ∧ v = a) := by
          by_cases y : u ≤ v
          · exact Or.inl (wE_inj hw hu hv ha hb y (by omega) ez)
          · rw [wE_cm] at ez
            have := wE_inj hw hv hu ha hb (by omega) (by omega) ez
            exact Or.inr ⟨this.2, this.1⟩
        have ja : jn g a b a = min (g a) (g b) := by unfold jn; split <;> omega
        have jb : jn g a b b = min (g a) (g b) := by unfold jn; split <;> omega
        rcases same with ⟨rfl, rfl⟩ | ⟨rfl, rfl⟩
        · rw [ja, jb]
        · rw [ja, jb]
theorem kSt_e {f : Int → Int} (hw : wfc f) {l1 l2 : List Int} {lo len : Int} {g : Int → Int} (h : kSt f l1 l2 lo g) (hm : ∀ u v, thr f u → thr f v → u < v → g u ≠ g v → ¬ farO f u v ≤ len) : l2 = [] ∨ ∃ w l2', l2 = w :: l2' ∧ len < w / 4096 := by
  obtain ⟨k1, k2, k3, k4, k5, k6⟩ := h
  cases l2 with
  | nil => exact Or.inl rfl
  | cons w l2' =>
    obtain ⟨i1, i2, i3, i4⟩ := k2
    obtain ⟨c, d, hc', hd, hcd, e, e1, e2, e3, hne⟩ := edg_pr hw i2 i3 k5 i1
    have := hm c d hc' hd hcd hne
    exact Or.inr ⟨w, l2', rfl, by omega⟩
/-- joined up to a length -/
def mgF (len : Int) : List Int → (Int → Int) → (Int → Int)
  | [], g => g
  | w :: l, g => if w / 4096 ≤ len then mgF len l (jnW g w) else mgF len l g
theorem mgF_no {f : Int → Int} {len : Int} : ∀ (l : List Int) (lo : Int) (g : Int → Int), incM f l lo → len < lo / 4096 → mgF len l g = g := by
  intro l
  induction l with
  | nil => intro lo g _ _; rfl
  | cons w l ih =>
    intro lo g h hl
    unfold mgF
    have := h.1
    rw [if_neg (by omega)]
    exact ih w g h.2.2.2 (by omega)
theorem mgF_ap {len : Int} : ∀ (l1 l2 : List Int) (g : Int → Int), (∀ w ∈ l1, w / 4096 ≤ len) → mgF len (l1 ++ l2) g = mgF len l2 (mgL l1 g) := by
  intro l1
  induction l1 with
  | nil => intro l2 g _; rfl
  | cons w l ih =>
    intro l2 g h
    show (if w / 4096 ≤ len then mgF len (l ++ l2) (jnW g w) else mgF len (l ++ l2) g) = mgF len l2 (mgL l (jnW g w))
    rw [if_pos (h w (List.mem_cons_self ..))]
    exact ih l2 _ (fun x hx => h x (List.mem_cons_of_mem _ hx))
theorem mgF_st {f : Int → Int} {len lo : Int} {l1 l2 : List Int} {g : Int → Int} (h : kSt f l1 l2 lo g) (hl : ∀ w ∈ l1, w / 4096 ≤ len) (he : l2 = [] ∨ ∃ w l2', l2 = w :: l2' ∧ len < w / 4096) : mgF len (l1 ++ l2) (fun p => p) = g := by
  rw [mgF_ap l1 l2 _ hl, ← h.2.2.1]
  rcases he with rfl | ⟨w, l2', rfl, hw⟩
  · rfl
  · unfold mgF
    rw [if_neg (by omega)]
    exact mgF_no l2' w g h.2.1.2.2.2 hw
theorem kSt_cnt {f : Int → Int} (h01 : th01 f) (hw : wfc f) {lo : Int} {l1 l2 : List Int} {g : Int → Int} (h : kSt f l1 l2 lo g) : cntF (rp f g) 40 0 0 + l1.length = cntF f 40 0 0 := by
  have i := incC_M l1 [] (-1) lo h.1 trivial
  rw [List.append_nil] at i
  have q := lenM hw l1 (-1) _ (grp_id f) (resp_id f _) i
  rw [rp_id h01, ← h.2.2.1] at q
  exact q.1
