/-! links: the reference joins the nearest again and again -/
/-- a pair that may be joined -/
def elg (f g : Int → Int) (len u v : Int) : Prop := thr f u ∧ thr f v ∧ u < v ∧ g u ≠ g v ∧ farO f u v ≤ len
def bef (u v a b : Int) : Prop := u < a ∨ (u = a ∧ v < b)
/-- the nearest of those ahead of (a, b) -/
def miP (f g : Int → Int) (len a b o t : Int) : Prop := (o = -1 ∧ t = -1 ∧ ∀ u v, bef u v a b → ¬ elg f g len u v) ∨ (elg f g len o t ∧ bef o t a b ∧ ∀ u v, bef u v a b → elg f g len u v → wE f o t ≤ wE f u v)
theorem miP_no {f g : Int → Int} {len a b o t : Int} (h : miP f g len a b o t) (hn : ¬ elg f g len a b) : miP f g len a (b + 1) o t := by
  have q : ∀ u v, bef u v a (b + 1) → elg f g len u v → bef u v a b := fun u v h1 h2 => by
    rcases h1 with z | ⟨z1, z2⟩
    · exact Or.inl z
    · by_cases y : v = b
      · rw [z1, y] at h2; exact absurd h2 hn
      · exact Or.inr ⟨z1, by omega⟩
  rcases h with ⟨h1, h2, h3⟩ | ⟨h1, h2, h3⟩
  · exact Or.inl ⟨h1, h2, fun u v z1 z2 => h3 u v (q u v z1 z2) z2⟩
  · refine Or.inr ⟨h1, ?_, fun u v z1 z2 => h3 u v (q u v z1 z2) z2⟩
    unfold bef at h2 ⊢; omega
theorem miP_ye {f g : Int → Int} {len a b o t : Int} (h : miP f g len a b o t) (he : elg f g len a b) (hc : o = -1 ∨ farO f a b < farO f o t) : miP f g len a (b + 1) a b := by
  obtain ⟨ha, hb, hab, hg, hl⟩ := he
  refine Or.inr ⟨⟨ha, hb, hab, hg, hl⟩, Or.inr ⟨rfl, by omega⟩, fun u v z1 z2 => ?_⟩
  by_cases y : u = a ∧ v = b
  · rw [y.1, y.2]; exact Int.le_refl _
  · have zb : bef u v a b := by unfold bef at z1 ⊢; omega
    rcases h with ⟨h1, h2, h3⟩ | ⟨h1, h2, h3⟩
    · exact absurd z2 (h3 u v zb)
    · have e := h3 u v zb z2
      have o0 := h1.1.1
      have t0 := h1.2.1.1
      have ot := h1.2.2.1
      rw [wE_lt (by omega : o ≤ t)] at e
      rw [wE_lt (by omega : a ≤ b)]
      have a0 := ha.1
      have b0 := hb.1
      omega
theorem miP_ke {f g : Int → Int} {len a b o t : Int} (h : miP f g len a b o t) (he : elg f g len a b) (ho : o ≠ -1) (hc : ¬ farO f a b < farO f o t) : miP f g len a (b + 1) o t := by
  rcases h with ⟨h1, h2, h3⟩ | ⟨h1, h2, h3⟩
  · exact absurd h1 ho
  · refine Or.inr ⟨h1, by unfold bef at h2 ⊢; omega, fun u v z1 z2 => ?_⟩
    by_cases y : u = a ∧ v = b
    · obtain ⟨ha, hb, hab, hg, hl⟩ := he
      rw [y.1, y.2, wE_lt (by omega : a ≤ b)]
      have ot := h1.2.2.1
      rw [wE_lt (by omega : o ≤ t)]
      have a0 := ha.1
      have b0 := hb.1
      have o0 := h1.1.1
      have t0 := h1.2.1.1
      unfold bef at h2
      omega
    · exact h3 u v (by unfold bef at z1 ⊢; omega) z2
theorem miP_nx {f g : Int → Int} {len a o t : Int} (h : miP f g len a 40 o t) : miP f g len (a + 1) (a + 1 + 1) o t := by
  have q : ∀ u v, bef u v (a + 1) (a + 1 + 1) → elg f g len u v → bef u v a 40 := fun u v h1 h2 => by
    have b1 := h2.2.1.1
    have b2 := h2.2.2.1
    unfold bef at h1 ⊢; omega
  rcases h with ⟨h1, h2, h3⟩ | ⟨h1, h2, h3⟩
  · exact Or.inl ⟨h1, h2, fun u v z1 z2 => h3 u v (q u v z1 z2) z2⟩
  · refine Or.inr ⟨h1, ?_, fun u v z1 z2 => h3 u v (q u v z1 z2) z2⟩
    unfold bef at h2 ⊢; omega
/-- a row of links against a list of pairs -/
def rowL (r : Int → Int) : List Int → Int → Prop
  | [], _ => True
  | w :: l, i => (r (3 * i) = w / 64 % 64 ∧ r (3 * i + 1) = w % 64 ∧ r (3 * i + 2) = w / 4096) ∧ rowL r l (i + 1)
theorem rowL_ap {r : Int → Int} {a b d w : Int} (ha : a = w / 64 % 64) (hb : b = w % 64) (hd : d = w / 4096) : ∀ (l : List Int) (i : Int), rowL r l i → rowL (up1 (up1 (up1 r (3 * (i + l.length)) a) (3 * (i + l.length) + 1) b) (3 * (i + l.length) + 2) d) (l ++ [w]) i := by
  intro l
  induction l with
  | nil =>
    intro i _
    rw [List.length_nil, show i + ((0 : Nat) : Int) = i by omega]
    refine ⟨⟨?_, ?_, ?_⟩, trivial⟩
    · rw [up1_n (by omega), up1_n (by omega), up1_s, ha]
    · rw [up1_n (by omega), up1_s, hb]
    · rw [up1_s, hd]
  | cons x l ih =>
    intro i h
    have nx := ih (i + 1) h.2
    rw [List.length_cons, show i + ((l.length + 1 : Nat) : Int) = i + 1 + l.length by omega]
    refine ⟨?_, nx⟩
    have := h.1
    rw [up1_n (by omega), up1_n (by omega), up1_n (by omega), up1_n (by omega), up1_n (by omega), up1_n (by omega), up1_n (by omega), up1_n (by omega), up1_n (by omega)]
    exact this
def gAg (r g : Int → Int) : Prop := ∀ q, 0 ≤ q → q < 40 → r q = g q
section L4
variable {n : Nat} {σ : sxS} {K : Option sxV → sxT → sxS → Prop} {f g : Int → Int}
theorem x246b (h01 : th01 (σ 150)) (hw : wfc (σ 150)) (hg : gAg (σ 164) g) {len a : Int} {u2 u3 u8 : Option sxV} (a0 : 0 ≤ a) (a1 : a < 40) : ∀ (k : Nat) (b o t : Int), b + k = 40 → a < b → miP (σ 150) g len a b o t → (∀ o t, miP (σ 150) g len a 40 o t → Rn 246 156 [some (vR 149), some (vI len), u2, u3, some (vI o), some (vI t), some (vI a), some (vI 40), u8] [] (T0 n) σ K) → Rn 246 51 [some (vR 149), some (vI len), u2, u3, some (vI o), some (vI t), some (vI a), some (vI b), u8] [] (T0 n) σ K := by
  intro k
  induction k with
  | zero =>
    intro b o t hb ab hm hK
    obtain rfl : b = 40 := by omega
    have nx := hK o t hm
    rw [s246_51]
    simp only [s246_53, s246_55, Int.reduceToNat, Int.reducePow, Nat.reducePow, Int.reduceLE, Int.reduceLT, Int.reduceNeg, Int.reduceEq, Int.reduceNe, Int.reduceAdd, Int.reduceSub, Int.reduceMul, and_self, sx_push, tf, List.length_cons, List.length_nil, Option.some.injEq, exists_eq_left', Nat.reduceAdd, Nat.reduceLeDiff, true_and, and_true, true_or, or_true, Int.zero_add, Nat.zero_le, eq_self, ne_eq, not_true_eq_false, not_false_eq_true, false_implies, true_implies, implies_true, b2i_0, b2i_1, b2i_01, up_sc, sc_at, sc_sc, ite_true, ite_false, if_true, if_false, Nat.reduceEqDiff, reduceIte]
    repeat' (first | intro _ | refine And.intro ?_ ?_)
    all_goals first | omega | exact nx
  | succ k ih =>
    intro b o t hb ab hm hK
    have b0 : 0 ≤ b := by omega
    have b1 : b < 40 := by omega
    have ga := hg a a0 a1
    have gb := hg b b0 b1
    have fo := farO_in hw a0 a1 b0 b1
    rw [s246_51]
    by_cases e : elg (σ 150) g len a b
    · have fa := e.1.2
      have fb := e.2.1.2
      have gn := e.2.2.2.1
      have fl := e.2.2.2.2
      have ga' : σ 164 a ≠ σ 164 b := by rw [ga, gb]; exact gn
      by_cases eo : o = -1
      · have nx := ih (b + 1) a b (by omega) (by omega) (miP_ye hm e (Or.inl eo)) hK
        simp only [s246_53, s246_55, s246_58, s246_59, s246_62, s246_63, s246_65, s246_66, s246_67, s246_70, s246_71, s246_74, s246_75, s246_77, s246_78, s246_79, s246_82, s246_83, s246_86, s246_88, s246_89, s246_90, s246_93, s246_95, s246_96, s246_99, s246_100, s246_102, s246_104, s246_107, s246_108, s246_111, s246_114, s246_116, s246_117, s246_142, s246_144, s246_146, s246_148, s246_150, s246_153, Int.reduceToNat, Int.reducePow, Nat.reducePow, Int.reduceLE, Int.reduceLT, Int.reduceNeg, Int.reduceEq, Int.reduceNe, Int.reduceAdd, Int.reduceSub, Int.reduceMul, and_self, sx_push, tf, List.length_cons, List.length_nil, Option.some.injEq, exists_eq_left', Nat.reduceAdd, Nat.reduceLeDiff, true_and, and_true, true_or, or_true, Int.zero_add, Nat.zero_le, eq_self, ne_eq, not_true_eq_false, not_false_eq_true, false_implies, true_implies, implies_true, b2i_0, b2i_1, b2i_01, up_sc, sc_at, sc_sc, ite_true, ite_false, if_true, if_false, Nat.reduceEqDiff, reduceIte, fa, fb, eo, x216o hw a0 a1 b0 b1]
        repeat' (first | intro _ | refine And.intro ?_ ?_)
        all_goals first | omega | exact nx
      · have hot : (0 ≤ o ∧ o < 40) ∧ 0 ≤ t ∧ t < 40 := by
          rcases hm with ⟨h1, _⟩ | ⟨h1, _⟩
          · exact absurd h1 eo
          · exact ⟨h1.1.1, h1.2.1.1⟩
        by_cases ef : farO (σ 150) a b < farO (σ 150) o t
        · have nx := ih (b + 1) a b (by omega) (by omega) (miP_ye hm e (Or.inr ef)) hK
          simp only [s246_53, s246_55, s246_58, s246_59, s246_62, s246_63, s246_65, s246_66, s246_67, s246_70, s246_71, s246_74, s246_75, s246_77, s246_78, s246_79, s246_82, s246_83, s246_86, s246_88, s246_89, s246_90, s246_93, s246_95, s246_96, s246_99, s246_100, s246_102, s246_104, s246_107, s246_108, s246_111, s246_114, s246_116, s246_117, s246_120, s246_121, s246_123, s246_125, s246_128, s246_129, s246_131, s246_133, s246_136, s246_139, s246_142, s246_144, s246_146, s246_148, s246_150, s246_153, Int.reduceToNat, Int.reducePow, Nat.reducePow, Int.reduceLE, Int.reduceLT, Int.reduceNeg, Int.reduceEq, Int.reduceNe, Int.reduceAdd, Int.reduceSub, Int.reduceMul, and_self, sx_push, tf, List.length_cons, List.length_nil, Option.some.injEq, exists_eq_left', Nat.reduceAdd, Nat.reduceLeDiff, true_and, and_true, true_or, or_true, Int.zero_add, Nat.zero_le, eq_self, ne_eq, not_true_eq_false, not_false_eq_true, false_implies, true_implies, implies_true, b2i_0, b2i_1, b2i_01, up_sc, sc_at, sc_sc, ite_true, ite_false, if_true, if_false, Nat.reduceEqDiff, reduceIte, fa, fb, x216o hw a0 a1 b0 b1, x216o hw hot.1.1 hot.1.2 hot.2.1 hot.2.2]
          repeat' (first | intro _ | refine And.intro ?_ ?_)
          all_goals first | omega | exact nx
        · have nx := ih (b + 1) o t (by omega) (by omega) (miP_ke hm e eo ef) hK
          simp only [s246_53, s246_55, s246_58, s246_59, s246_62, s246_63, s246_65, s246_66, s246_67, s246_70, s246_71, s246_74, s246_75, s246_77, s246_78, s246_79, s246_82, s246_83, s246_86, s246_88, s246_89, s246_90, s246_93, s246_95, s246_96, s246_99, s246_100, s246_102, s246_104, s246_107, s246_108, s246_111, s246_114, s246_116, s246_117, s246_120, s246_121, s246_123, s246_125, s246_128, s246_129, s246_131, s246_133, s246_136, s246_139, s246_142, s246_144, s246_146, s246_148, s246_150, s246_153, Int.reduceToNat, Int.reducePow, Nat.reducePow, Int.reduceLE, Int.reduceLT, Int.reduceNeg, Int.reduceEq, Int.reduceNe, Int.reduceAdd, Int.reduceSub, Int.reduceMul, and_self, sx_push, tf, List.length_cons, List.length_nil, Option.some.injEq, exists_eq_left', Nat.reduceAdd, Nat.reduceLeDiff, true_and, and_true, true_or, or_true, Int.zero_add, Nat.zero_le, eq_self, ne_eq, not_true_eq_false, not_false_eq_true, false_implies, true_implies, implies_true, b2i_0, b2i_1, b2i_01, up_sc, sc_at, sc_sc, ite_true, ite_false, if_true, if_false, Nat.reduceEqDiff, reduceIte, fa, fb, x216o hw a0 a1 b0 b1, x216o hw hot.1.1 hot.1.2 hot.2.1 hot.2.2]
          repeat' (first | intro _ | refine And.intro ?_ ?_)
          all_goals first | omega | exact nx
    · have nx := ih (b + 1) o t (by omega) (by omega) (miP_no hm e) hK
      rcases h01 a a0 a1 with fa | fa
      · simp only [s246_53, s246_55, s246_58, s246_59, s246_62, s246_63, s246_65, s246_66, s246_67, s246_150, s246_153, Int.reduceToNat, Int.reducePow, Nat.reducePow, Int.reduceLE, Int.reduceLT, Int.reduceNeg, Int.reduceEq, Int.reduceNe, Int.reduceAdd, Int.reduceSub, Int.reduceMul, and_self, sx_push, tf, List.length_cons, List.length_nil, Option.some.injEq, exists_eq_left', Nat.reduceAdd, Nat.reduceLeDiff, true_and, and_true, true_or, or_true, Int.zero_add, Nat.zero_le, eq_self, ne_eq, not_true_eq_false, not_false_eq_true, false_implies, true_implies, implies_true, b2i_0, b2i_1, b2i_01, up_sc, sc_at, sc_sc, ite_true, ite_false, if_true, if_false, Nat.reduceEqDiff, reduceIte, fa]
        repeat' (first | intro _ | refine And.intro ?_ ?_)
        all_goals first | omega | exact nx
      · rcases h01 b b0 b1 with fb | fb
        · simp only [s246_53, s246_55, s246_58, s246_59, s246_62, s246_63, s246_65, s246_66, s246_67, s246_70, s246_71, s246_74, s246_75, s246_77, s246_78, s246_79, s246_150, s246_153, Int.reduceToNat, Int.reducePow, Nat.reducePow, Int.reduceLE, Int.reduceLT, Int.reduceNeg, Int.reduceEq, Int.reduceNe, Int.reduceAdd, Int.reduceSub, Int.reduceMul, and_self, sx_push, tf, List.length_cons, List.length_nil, Option.some.injEq, exists_eq_left', Nat.reduceAdd, Nat.reduceLeDiff, true_and, and_true, true_or, or_true, Int.zero_add, Nat.zero_le, eq_self, ne_eq, not_true_eq_false, not_false_eq_true, false_implies, true_implies, implies_true, b2i_0, b2i_1, b2i_01, up_sc, sc_at, sc_sc, ite_true, ite_false, if_true, if_false, Nat.reduceEqDiff, reduceIte, fa, fb]
          repeat' (first | intro _ | refine And.intro ?_ ?_)
          all_goals first | omega | exact nx
        · by_cases gn : g a = g b
          · have ga' : σ 164 a = σ 164 b := by rw [ga, gb]; exact gn
            simp only [s246_53, s246_55, s246_58, s246_59, s246_62, s246_63, s246_65, s246_66, s246_67, s246_70, s246_71, s246_74, s246_75, s246_77, s246_78, s246_79, s246_82, s246_83, s246_86, s246_88, s246_89, s246_90, s246_93, s246_95, s246_96, s246_150, s246_153, Int.reduceToNat, Int.reducePow, Nat.reducePow, Int.reduceLE, Int.reduceLT, Int.reduceNeg, Int.reduceEq, Int.reduceNe, Int.reduceAdd, Int.reduceSub, Int.reduceMul, and_self, sx_push, tf, List.length_cons, List.length_nil, Option.some.injEq, exists_eq_left', Nat.reduceAdd, Nat.reduceLeDiff, true_and, and_true, true_or, or_true, Int.zero_add, Nat.zero_le, eq_self, ne_eq, not_true_eq_false, not_false_eq_true, false_implies, true_implies, implies_true, b2i_0, b2i_1, b2i_01, up_sc, sc_at, sc_sc, ite_true, ite_false, if_true, if_false, Nat.reduceEqDiff, reduceIte, fa, fb, ga']
            repeat' (first | intro _ | refine And.intro ?_ ?_)
            all_goals first | omega | exact nx
          · have ga' : σ 164 a ≠ σ 164 b := by rw [ga, gb]; exact gn
            have fl : ¬ farO (σ 150) a b ≤ len := fun z => e ⟨⟨⟨a0, a1⟩, fa⟩, ⟨⟨b0, b1⟩, fb⟩, ab, gn, z⟩
            simp only [s246_53, s246_55, s246_58, s246_59, s246_62, s246_63, s246_65, s246_66, s246_67, s246_70, s246_71, s246_74, s246_75, s246_77, s246_78, s246_79, s246_82, s246_83, s246_86, s246_88, s246_89, s246_90, s246_93, s246_95, s246_96, s246_99, s246_100, s246_102, s246_104, s246_107, s246_108, s246_111, s246_150, s246_153, Int.reduceToNat, Int.reducePow, Nat.reducePow, Int.reduceLE, Int.reduceLT, Int.reduceNeg, Int.reduceEq, Int.reduceNe, Int.reduceAdd, Int.reduceSub, Int.reduceMul, and_self, sx_push, tf, List.length_cons, List.length_nil, Option.some.injEq, exists_eq_left', Nat.reduceAdd, Nat.reduceLeDiff, true_and, and_true, true_or, or_true, Int.zero_add, Nat.zero_le, eq_self, ne_eq, not_true_eq_false, not_false_eq_true, false_implies, true_implies, implies_true, b2i_0, b2i_1, b2i_01, up_sc, sc_at, sc_sc, ite_true, ite_false, if_true, if_false, Nat.reduceEqDiff, reduceIte, fa, fb, x216o hw a0 a1 b0 b1]
            repeat' (first | intro _ | refine And.intro ?_ ?_)
            all_goals first | omega | exact nx
theorem x246a (h01 : th01 (σ 150)) (hw : wfc (σ 150)) (hg : gAg (σ 164) g) {len : Int} {u2 u3 u8 : Option sxV} : ∀ (k : Nat) (a o t : Int) (u7 : Option sxV), a + k = 40 → 0 ≤ a → miP (σ 150) g len a (a + 1) o t → (∀ o t u7, miP (σ 150) g len 40 41 o t → Rn 246 162 [some (vR 149), some (vI len), u2, u3, some (vI o), some (vI t), some (vI 40), u7, u8] [] (T0 n) σ K) → Rn 246 38 [some (vR 149), some (vI len), u2, u3, some (vI o), some (vI t), some (vI a), u7, u8] [] (T0 n) σ K := by
  intro k
  induction k with
  | zero =>
    intro a o t u7 ha a0 hm hK
    obtain rfl : a = 40 := by omega
    have nx := hK o t u7 hm
    rw [s246_38]
    simp only [s246_40, s246_42, Int.reduceToNat, Int.reducePow, Nat.reducePow, Int.reduceLE, Int.reduceLT, Int.reduceNeg, Int.reduceEq, Int.reduceNe, Int.reduceAdd, Int.reduceSub, Int.reduceMul, and_self, sx_push, tf, List.length_cons, List.length_nil, Option.some.injEq, exists_eq_left', Nat.reduceAdd, Nat.reduceLeDiff, true_and, and_true, true_or, or_true, Int.zero_add, Nat.zero_le, eq_self, ne_eq, not_true_eq_false, not_false_eq_true, false_implies, true_implies, implies_true, b2i_0, b2i_1, b2i_01, up_sc, sc_at, sc_sc, ite_true, ite_false, if_true, if_false, Nat.reduceEqDiff, reduceIte]
    repeat' (first | intro _ | refine And.intro ?_ ?_)
    all_goals first | omega | exact nx
  | succ k ih =>
    intro a o t u7 ha a0 hm hK
    have main : Rn 246 51 [some (vR 149), some (vI len), u2, u3, some (vI o), some (vI t), some (vI a), some (vI (a + 1)), u8] [] (T0 n) σ K := by
      refine x246b h01 hw hg a0 (by omega) k (a + 1) o t (by omega) (by omega) hm (fun o' t' hm' => ?_)
      have nx := ih (a + 1) o' t' (some (vI 40)) (by omega) (by omega) (miP_nx hm') hK
      simp only [s246_156, s246_159, Int.reduceToNat, Int.reducePow, Nat.reducePow, Int.reduceLE, Int.reduceLT, Int.reduceNeg, Int.reduceEq, Int.reduceNe, Int.reduceAdd, Int.reduceSub, Int.reduceMul, and_self, sx_push, tf, List.length_cons, List.length_nil, Option.some.injEq, exists_eq_left', Nat.reduceAdd, Nat.reduceLeDiff, true_and, and_true, true_or, or_true, Int.zero_add, Nat.zero_le, eq_self, ne_eq, not_true_eq_false, not_false_eq_true, false_implies, true_implies, implies_true, b2i_0, b2i_1, b2i_01, up_sc, sc_at, sc_sc, ite_true, ite_false, if_true, if_false, Nat.reduceEqDiff, reduceIte]
      repeat' (first | intro _ | refine And.intro ?_ ?_)
      all_goals first | omega | exact nx
    rw [s246_38]
    simp only [s246_40, s246_42, s246_45, s246_47, s246_48, s246_49, Int.reduceToNat, Int.reducePow, Nat.reducePow, Int.reduceLE, Int.reduceLT, Int.reduceNeg, Int.reduceEq, Int.reduceNe, Int.reduceAdd, Int.reduceSub, Int.reduceMul, and_self, sx_push, tf, List.length_cons, List.length_nil, Option.some.injEq, exists_eq_left', Nat.reduceAdd, Nat.reduceLeDiff, true_and, and_true, true_or, or_true, Int.zero_add, Nat.zero_le, eq_self, ne_eq, not_true_eq_false, not_false_eq_true, false_implies, true_implies, implies_true, b2i_0, b2i_1, b2i_01, up_sc, sc_at, sc_sc, ite_true, ite_false, if_true, if_false, Nat.reduceEqDiff, reduceIte]
    repeat' (first | intro _ | refine And.intro ?_ ?_)
    all_goals first | omega | exact main
theorem x246j {len lo hi : Int} {u2 u3 u4 u5 : Option sxV} : ∀ (k : Nat) (p : Int) (σ1 : sxS), p + k = 40 → 0 ≤ p → (∀ q, q ≠ 164 → σ1 q = σ q) → (∀ q, 0 ≤ q → q < 40 → (q < p → σ1 164 q = if σ 164 q = hi then lo else σ 164 q) ∧ (¬ q < p → σ1 164 q = σ 164 q)) → (∀ σ' v, (∀ q, q ≠ 164 → σ' q = σ q) → (∀ q, 0 ≤ q → q < 40 → σ' 164 q = if σ 164 q = hi then lo else σ 164 q) → Rn 246 25 [some (vR 149), some (vI len), u2, u3, u4, u5, some (vI lo), some (vI hi), v] [] (T0 n) σ' K) → Rn 246 283 [some (vR 149), some (vI len), u2, u3, u4, u5, some (vI lo), some (vI hi), some (vI p)] [] (T0 n) σ1 K := by
  intro k
  induction k with
  | zero =>
    intro p σ1 hp p0 h1 h2 hK
    obtain rfl : p = 40 := by omega
    have nx := hK σ1 (some (vI 40)) h1 (fun q q0 q1 => (h2 q q0 q1).1 q1)
    rw [s246_283]
    simp only [s246_285, s246_287, s246_327, Int.reduceToNat, Int.reducePow, Nat.reducePow, Int.reduceLE, Int.reduceLT, Int.reduceNeg, Int.reduceEq, Int.reduceNe, Int.reduceAdd, Int.reduceSub, Int.reduceMul, and_self, sx_push, tf, List.length_cons, List.length_nil, Option.some.injEq, exists_eq_left', Nat.reduceAdd, Nat.reduceLeDiff, true_and, and_true, true_or, or_true, Int.zero_add, Nat.zero_le, eq_self, ne_eq, not_true_eq_false, not_false_eq_true, false_implies, true_implies, implies_true, b2i_0, b2i_1, b2i_01, up_sc, sc_at, sc_sc, ite_true, ite_false, if_true, if_false, Nat.reduceEqDiff, reduceIte]
    repeat' (first | intro _ | refine And.intro ?_ ?_)
    all_goals first | omega | exact nx
  | succ k ih =>
    intro p σ1 hp p0 h1 h2 hK
    have e1 : σ1 164 p = σ 164 p := (h2 p p0 (by omega)).2 (by omega)
    have nx := ih (p + 1) (sc σ1 164 (up1 (σ1 164) p (if σ 164 p = hi then lo else σ 164 p))) (by omega) (by omega) (fun q hq => by rw [sc_at, if_neg hq, h1 q hq]) (fun q q0 q1 => by
      rw [sc_at, if_pos rfl]
      by_cases z : q = p
      · rw [z, up1_s]; exact ⟨fun _ => rfl, fun w => by omega⟩
      · rw [up1_n z]
        have := h2 q q0 q1
        exact ⟨fun w => this.1 (by omega), fun w => this.2 (by omega)⟩) hK
    rw [s246_283]
    by_cases y : σ 164 p = hi
    · rw [if_pos y] at nx
      simp only [s246_285, s246_287, s246_290, s246_291, s246_294, s246_296, s246_297, s246_300, s246_302, s246_303, s246_305, s246_308, s246_310, s246_320, s246_321, s246_324, Int.reduceToNat, Int.reducePow, Nat.reducePow, Int.reduceLE, Int.reduceLT, Int.reduceNeg, Int.reduceEq, Int.reduceNe, Int.reduceAdd, Int.reduceSub, Int.reduceMul, and_self, sx_push, tf, List.length_cons, List.length_nil, Option.some.injEq, exists_eq_left', Nat.reduceAdd, Nat.reduceLeDiff, true_and, and_true, true_or, or_true, Int.zero_add, Nat.zero_le, eq_self, ne_eq, not_true_eq_false, not_false_eq_true, false_implies, true_implies, implies_true, b2i_0, b2i_1, b2i_01, up_sc, sc_at, sc_sc, ite_true, ite_false, if_true, if_false, Nat.reduceEqDiff, reduceIte, e1, y]
      repeat' (first | intro _ | refine And.intro ?_ ?_)
      all_goals first | omega | exact nx
    · rw [if_neg y] at nx
      simp only [s246_285, s246_287, s246_290, s246_291, s246_294, s246_296, s246_297, s246_300, s246_302, s246_303, s246_305, s246_313, s246_314, s246_317, s246_319, s246_320, s246_321, s246_324, Int.reduceToNat, Int.reducePow, Nat.reducePow, Int.reduceLE, Int.reduceLT, Int.reduceNeg, Int.reduceEq, Int.reduceNe, Int.reduceAdd, Int.reduceSub, Int.reduceMul, and_self, sx_push, tf, List.length_cons, List.length_nil, Option.some.injEq, exists_eq_left', Nat.reduceAdd, Nat.reduceLeDiff, true_and, and_true, true_or, or_true, Int.zero_add, Nat.zero_le, eq_self, ne_eq, not_true_eq_false, not_false_eq_true, false_implies, true_implies, implies_true, b2i_0, b2i_1, b2i_01, up_sc, sc_at, sc_sc, ite_true, ite_false, if_true, if_false, Nat.reduceEqDiff, reduceIte, e1]
      repeat' (first | intro _ | refine And.intro ?_ ?_)
      all_goals first | omega | contradiction | exact nx
/-- a list, its row, its groups: what the joining keeps -/
def kkP (f : Int → Int) (len : Int) (L0 l1 l2 : List Int) (lo : Int) (g : Int → Int) (σ : sxS) : Prop := l1 ++ l2 = L0 ∧ kSt f l1 l2 lo g ∧ gAg (σ 164) g ∧ rowL (σ 165) l1 0 ∧ ∀ w ∈ l1, w / 4096 ≤ len
theorem x246m {L0 : List Int} {len m : Int} (h01 : th01 f) (hw : wfc f) (hl : (L0.length : Int) = m) (m1 : m < 40) (hc : m + 1 = cntF f 40 0 0 ∨ (m = 0 ∧ cntF f 40 0 0 = 0)) : ∀ (k : Nat) (l1 l2 : List Int) (lo : Int) (g : Int → Int) (σ : sxS) (u4 u5 u6 u7 u8 : Option sxV), l2.length = k → σ 150 = f → kkP f len L0 l1 l2 lo g σ → (∀ σ' l1 l2 lo g, (∀ q, q ≠ 164 → q ≠ 165 → σ' q = σ q) → kkP f len L0 l1 l2 lo g σ' → (l2 = [] ∨ ∃ w l2', l2 = w :: l2' ∧ len < w / 4096) → K (some (vI l1.length)) (T0 n) σ') → Rn 246 25 [some (vR 149), some (vI len), some (vI l1.length), some (vI 1), u4, u5, u6, u7, u8] [] (T0 n) σ K := by
  intro k
  induction k with
  | zero =>
    intro l1 l2 lo g σ u4 u5 u6 u7 u8 hk h150 hP hK
    obtain ⟨p1, p2, p3, p4, p5⟩ := hP
    have len1 : (l1.length : Int) + l2.length = m := by
      rw [← p1, List.length_append] at hl
      omega
    have go : Rn 246 38 [some (vR 149), some (vI len), some (vI l1.length), some (vI 1), some (vI (-1)), some (vI (-1)), some (vI 0), u7, u8] [] (T0 n) σ K := by
      refine x246a (g := g) (by rw [h150]; exact h01) (by rw [h150]; exact hw) p3 40 0 (-1) (-1) u7 (by omega) (by omega) (Or.inl ⟨rfl, rfl, fun u v z1 z2 => by
        have := z2.1.1
        have := z2.2.1.1
        have := z2.2.2.1
        unfold bef at z1; omega⟩) (fun o t u7' hm => ?_)
      rw [h150] at hm
      have allb : ∀ u v, elg f g len u v → bef u v 40 41 := fun u v z => by
        have := z.1.1
        unfold bef; omega
      rcases hm with ⟨z1, z2, z3⟩ | ⟨z1, z2, z3⟩
      · subst z1
        have nx := hK σ l1 l2 lo g (fun _ _ _ => rfl) ⟨p1, p2, p3, p4, p5⟩ (kSt_e hw p2 (fun u v hu hv huv hg hf => z3 u v (allb u v ⟨hu, hv, huv, hg, hf⟩) ⟨hu, hv, huv, hg, hf⟩))
        have lp : Rn 246 25 [some (vR 149), some (vI len), some (vI l1.length), some (vI 0), some (vI (-1)), some (vI t), some (vI 40), u7', u8] [] (T0 n) σ K := by
          rw [s246_25]
          simp only [s246_26, s246_330, s246_331, Int.reduceToNat, Int.reducePow, Nat.reducePow, Int.reduceLE, Int.reduceLT, Int.reduceNeg, Int.reduceEq, Int.reduceNe, Int.reduceAdd, Int.reduceSub, Int.reduceMul, and_self, sx_push, tf, List.length_cons, List.length_nil, Option.some.injEq, exists_eq_left', Nat.reduceAdd, Nat.reduceLeDiff, true_and, and_true, true_or, or_true, Int.zero_add, Nat.zero_le, eq_self, ne_eq, not_true_eq_false, not_false_eq_true, false_implies, true_implies, implies_true, b2i_0, b2i_1, b2i_01, up_sc, sc_at, sc_sc, ite_true, ite_false, if_true, if_false, Nat.reduceEqDiff, reduceIte]
          repeat' (first | intro _ | refine And.intro ?_ ?_)
          all_goals first | omega | exact nx
        simp only [s246_162, s246_164, s246_165, s246_168, s246_169, s246_172, s246_173, s246_174, s246_175, s246_178, Int.reduceToNat, Int.reducePow, Nat.reducePow, Int.reduceLE, Int.reduceLT, Int.reduceNeg, Int.reduceEq, Int.reduceNe, Int.reduceAdd, Int.reduceSub, Int.reduceMul, and_self, sx_push, tf, List.length_cons, List.length_nil, Option.some.injEq, exists_eq_left', Nat.reduceAdd, Nat.reduceLeDiff, true_and, and_true, true_or, or_true, Int.zero_add, Nat.zero_le, eq_self, ne_eq, not_true_eq_false, not_false_eq_true, false_implies, true_implies, implies_true, b2i_0, b2i_1, b2i_01, up_sc, sc_at, sc_sc, ite_true, ite_false, if_true, if_false, Nat.reduceEqDiff, reduceIte]
        repeat' (first | intro _ | refine And.intro ?_ ?_)
        all_goals first | omega | exact lp
      · obtain ⟨ho, ht, hot, hgn, hfl⟩ := z1
        have o0 := ho.1
        have t0 := ht.1
        have cp : 1 ≤ cntF f 40 0 0 := by
          have := rp_pos (grp_id f) ho
          rw [rp_id h01] at this
          exact this
        have hc' : ((l1 ++ l2).length : Int) + 1 = cntF f 40 0 0 := by rw [p1]; omega
        obtain ⟨l2', e2, hk2⟩ := kSt_s h01 hw p2 hc' ho ht hot hgn hfl (fun u v hu hv huv hg hf => z3 u v (allb u v ⟨hu, hv, huv, hg, hf⟩) ⟨hu, hv, huv, hg, hf⟩)
        have we := wE_in hw ho ht (by omega)
        rw [e2, List.length_cons] at hk
        omega
    rw [s246_25]
    simp only [s246_26, s246_29, s246_30, s246_32, s246_33, s246_35, s246_36, Int.reduceToNat, Int.reducePow, Nat.reducePow, Int.reduceLE, Int.reduceLT, Int.reduceNeg, Int.reduceEq, Int.reduceNe, Int.reduceAdd, Int.reduceSub, Int.reduceMul, and_self, sx_push, tf, List.length_cons, List.length_nil, Option.some.injEq, exists_eq_left', Nat.reduceAdd, Nat.reduceLeDiff, true_and, and_true, true_or, or_true, Int.zero_add, Nat.zero_le, eq_self, ne_eq, not_true_eq_false, not_false_eq_true, false_implies, true_implies, implies_true, b2i_0, b2i_1, b2i_01, up_sc, sc_at, sc_sc, ite_true, ite_false, if_true, if_false, Nat.reduceEqDiff, reduceIte]
    repeat' (first | intro _ | refine And.intro ?_ ?_)
    all_goals first | omega | exact go
  | succ k ih =>
    intro l1 l2 lo g σ u4 u5 u6 u7 u8 hk h150 hP hK
    obtain ⟨p1, p2, p3, p4, p5⟩ := hP
    have len1 : (l1.length : Int) + l2.length = m := by
      rw [← p1, List.length_append] at hl
      omega
    have go : Rn 246 38 [some (vR 149), some (vI len), some (vI l1.length), some (vI 1), some (vI (-1)), some (vI (-1)), some (vI 0), u7, u8] [] (T0 n) σ K := by
      refine x246a (g := g) (by rw [h150]; exact h01) (by rw [h150]; exact hw) p3 40 0 (-1) (-1) u7 (by omega) (by omega) (Or.inl ⟨rfl, rfl, fun u v z1 z2 => by
        have := z2.1.1
        have := z2.2.1.1
        have := z2.2.2.1
        unfold bef at z1; omega⟩) (fun o t u7' hm => ?_)
      rw [h150] at hm
      have allb : ∀ u v, elg f g len u v → bef u v 40 41 := fun u v z => by
        have := z.1.1
        unfold bef; omega
      rcases hm with ⟨z1, z2, z3⟩ | ⟨z1, z2, z3⟩
      · subst z1
        have nx := hK σ l1 l2 lo g (fun _ _ _ => rfl) ⟨p1, p2, p3, p4, p5⟩ (kSt_e hw p2 (fun u v hu hv huv hg hf => z3 u v (allb u v ⟨hu, hv, huv, hg, hf⟩) ⟨hu, hv, huv, hg, hf⟩))
        have lp : Rn 246 25 [some (vR 149), some (vI len), some (vI l1.length), some (vI 0), some (vI (-1)), some (vI t), some (vI 40), u7', u8] [] (T0 n) σ K := by
          rw [s246_25]
          simp only [s246_26, s246_330, s246_331, Int.reduceToNat, Int.reducePow, Nat.reducePow, Int.reduceLE, Int.reduceLT, Int.reduceNeg, Int.reduceEq, Int.reduceNe, Int.reduceAdd, Int.reduceSub, Int.reduceMul, and_self, sx_push, tf, List.length_cons, List.length_nil, Option.some.injEq, exists_eq_left', Nat.reduceAdd, Nat.reduceLeDiff, true_and, and_true, true_or, or_true, Int.zero_add, Nat.zero_le, eq_self, ne_eq, not_true_eq_false, not_false_eq_true, false_implies, true_implies, implies_true, b2i_0, b2i_1, b2i_01, up_sc, sc_at, sc_sc, ite_true, ite_false, if_true, if_false, Nat.reduceEqDiff, reduceIte]
          repeat' (first | intro _ | refine And.intro ?_ ?_)
          all_goals first | omega | exact nx
        simp only [s246_162, s246_164, s246_165, s246_168, s246_169, s246_172, s246_173, s246_174, s246_175, s246_178, Int.reduceToNat, Int.reducePow, Nat.reducePow, Int.reduceLE, Int.reduceLT, Int.reduceNeg, Int.reduceEq, Int.reduceNe, Int.reduceAdd, Int.reduceSub, Int.reduceMul, and_self, sx_push, tf, List.length_cons, List.length_nil, Option.some.injEq, exists_eq_left', Nat.reduceAdd, Nat.reduceLeDiff, true_and, and_true, true_or, or_true, Int.zero_add, Nat.zero_le, eq_self, ne_eq, not_true_eq_false, not_false_eq_true, false_implies, true_implies, implies_true, b2i_0, b2i_1, b2i_01, up_sc, sc_at, sc_sc, ite_true, ite_false, if_true, if_false, Nat.reduceEqDiff, reduceIte]
        repeat' (first | intro _ | refine And.intro ?_ ?_)
        all_goals first | omega | exact lp
      · obtain ⟨ho, ht, hot, hgn, hfl⟩ := z1
        have o0 := ho.1
        have t0 := ht.1
        have cp : 1 ≤ cntF f 40 0 0 := by
          have := rp_pos (grp_id f) ho
          rw [rp_id h01] at this
          exact this
        have hc' : ((l1 ++ l2).length : Int) + 1 = cntF f 40 0 0 := by rw [p1]; omega
        obtain ⟨l2', e2, hk2⟩ := kSt_s h01 hw p2 hc' ho ht hot hgn hfl (fun u v hu hv huv hg hf => z3 u v (allb u v ⟨hu, hv, huv, hg, hf⟩) ⟨hu, hv, huv, hg, hf⟩)
        have we := wE_in hw ho ht (by omega)
        have lk2 : l2'.length = k := by rw [e2, List.length_cons] at hk; omega
        have l1b : (l1.length : Int) < 39 := by rw [e2, List.length_cons] at len1; omega
        have go := p3 o o0.1 o0.2
        have gt := p3 t t0.1 t0.2
        have tg := hk2.2.2.2.1
        have gg := p2.2.2.2.1
        have gor := (gg o ho).1.1
        have gtr := (gg t ht).1.1
        have fr165 : ∀ q, q ≠ 165 → sc σ 165 (up1 (up1 (up1 (σ 165) (3 * (l1.length : Int)) o) (3 * (l1.length : Int) + 1) t) (3 * (l1.length : Int) + 2) (farO f o t)) q = σ q := fun q hq => by rw [sc_at, if_neg hq]
        have r165 : sc σ 165 (up1 (up1 (up1 (σ 165) (3 * (l1.length : Int)) o) (3 * (l1.length : Int) + 1) t) (3 * (l1.length : Int) + 2) (farO f o t)) 165 = up1 (up1 (up1 (σ 165) (3 * (l1.length : Int)) o) (3 * (l1.length : Int) + 1) t) (3 * (l1.length : Int) + 2) (farO f o t) := by rw [sc_at, if_pos rfl]
        have jl : Rn 246 283 [some (vR 149), some (vI len), some (vI (l1.length + 1)), some (vI 1), some (vI o), some (vI t), some (vI (min (g o) (g t))), some (vI (max (g o) (g t))), some (vI 0)] [] (T0 n) (sc σ 165 (up1 (up1 (up1 (σ 165) (3 * (l1.length : Int)) o) (3 * (l1.length : Int) + 1) t) (3 * (l1.length : Int) + 2) (farO f o t))) K := by
          refine x246j (σ := sc σ 165 (up1 (up1 (up1 (σ 165) (3 * (l1.length : Int)) o) (3 * (l1.length : Int) + 1) t) (3 * (l1.length : Int) + 2) (farO f o t))) 40 0 _ (by omega) (by omega) (fun _ _ => rfl) (fun q q0 q1 => ⟨fun w => by omega, fun _ => rfl⟩) (fun σ2 v s1 s2 => ?_)
          have nx := ih (l1 ++ [wE f o t]) l2' (wE f o t) (jn g o t) σ2 (some (vI o)) (some (vI t)) (some (vI (min (g o) (g t)))) (some (vI (max (g o) (g t)))) v lk2 (by rw [s1 150 (by decide), fr165 150 (by decide), h150]) ⟨by rw [List.append_assoc, ← p1, e2]; rfl, hk2, fun q q0 q1 => by
            rw [s2 q q0 q1, fr165 164 (by decide), p3 q q0 q1]; rfl, by
            rw [s1 165 (by decide), r165]
            have := rowL_ap (r := σ 165) (a := o) (b := t) (d := farO f o t) (w := wE f o t) we.2.1.symm we.2.2.1.symm we.2.2.2.symm l1 0 p4
            rw [Int.zero_add] at this
            exact this, fun w hw' => by
            rcases List.mem_append.mp hw' with y | y
            · exact p5 w y
            · rw [List.mem_singleton.mp y, we.2.2.2]; exact hfl⟩ (fun σ' l1 l2 lo g q1 q2 q3 => hK σ' l1 l2 lo g (fun q a b => by rw [q1 q a b, s1 q a, fr165 q b]) q2 q3)
          rw [List.length_append, List.length_cons, List.length_nil, show ((l1.length + (0 + 1) : Nat) : Int) = l1.length + 1 by omega] at nx
          exact nx
        have hw1 : wfc (σ 150) := by rw [h150]; exact hw
        have x216' := fun σ1 K (hs : σ1 150 = f) => x216o (n := n) (σ := σ1) (K := K) (p := o) (q := t) (by rw [hs]; exact hw) o0.1 o0.2 t0.1 t0.2
        have x2 := fun K => x216' (sc σ 165 (up1 (up1 (σ 165) (3 * (l1.length : Int)) o) (3 * (l1.length : Int) + 1) t)) K (by rw [sc_at, if_neg (by decide), h150])
        have e150 : sc σ 165 (up1 (up1 (σ 165) (3 * (l1.length : Int)) o) (3 * (l1.length : Int) + 1) t) 150 = f := by rw [sc_at, if_neg (by decide), h150]
        simp only [e150] at x2
        have on1 : o ≠ -1 := by omega
        by_cases y : g o < g t
        · have mi : min (g o) (g t) = g o := by omega
          have ma : max (g o) (g t) = g o + g t - g o := by omega
          rw [mi, ma] at jl
          simp only [s246_162, s246_164, s246_165, s246_168, s246_169, s246_172, s246_173, s246_174, s246_175, s246_178, s246_181, s246_182, s246_185, s246_186, s246_187, s246_188, s246_190, s246_191, s246_192, s246_195, s246_196, s246_197, s246_198, s246_199, s246_200, s246_202, s246_203, s246_204, s246_207, s246_208, s246_209, s246_210, s246_211, s246_212, s246_213, s246_215, s246_217, s246_220, s246_221, s246_224, s246_225, s246_228, s246_230, s246_231, s246_232, s246_235, s246_237, s246_238, s246_241, s246_242, s246_245, s246_247, s246_248, s246_251, s246_252, s246_255, s246_257, s246_258, s246_260, s246_261, s246_264, s246_266, s246_267, s246_268, s246_271, s246_273, s246_274, s246_275, s246_277, s246_278, s246_280, s246_281, Int.reduceToNat, Int.reducePow, Nat.reducePow, Int.reduceLE, Int.reduceLT, Int.reduceNeg, Int.reduceEq, Int.reduceNe, Int.reduceAdd, Int.reduceSub, Int.reduceMul, and_self, sx_push, tf, List.length_cons, List.length_nil, Option.some.injEq, exists_eq_left', Nat.reduceAdd, Nat.reduceLeDiff, true_and, and_true, true_or, or_true, Int.zero_add, Nat.zero_le, eq_self, ne_eq, not_true_eq_false, not_false_eq_true, false_implies, true_implies, implies_true, b2i_0, b2i_1, b2i_01, up_sc, sc_at, sc_sc, ite_true, ite_false, if_true, if_false, Nat.reduceEqDiff, reduceIte, x2, go, gt]
          repeat' (first | intro _ | refine And.intro ?_ ?_)
          all_goals first | omega | contradiction | exact jl
        · have mi : min (g o) (g t) = g t := by omega
          have ma : max (g o) (g t) = g o + g t - g t := by omega
          rw [mi, ma] at jl
          simp only [s246_162, s246_164, s246_165, s246_168, s246_169, s246_172, s246_173, s246_174, s246_175, s246_178, s246_181, s246_182, s246_185, s246_186, s246_187, s246_188, s246_190, s246_191, s246_192, s246_195, s246_196, s246_197, s246_198, s246_199, s246_200, s246_202, s246_203, s246_204, s246_207, s246_208, s246_209, s246_210, s246_211, s246_212, s246_213, s246_215, s246_217, s246_220, s246_221, s246_224, s246_225, s246_228, s246_230, s246_231, s246_232, s246_235, s246_237, s246_238, s246_241, s246_242, s246_245, s246_247, s246_248, s246_251, s246_252, s246_255, s246_257, s246_258, s246_260, s246_261, s246_264, s246_266, s246_267, s246_268, s246_271, s246_273, s246_274, s246_275, s246_277, s246_278, s246_280, s246_281, Int.reduceToNat, Int.reducePow, Nat.reducePow, Int.reduceLE, Int.reduceLT, Int.reduceNeg, Int.reduceEq, Int.reduceNe, Int.reduceAdd, Int.reduceSub, Int.reduceMul, and_self, sx_push, tf, List.length_cons, List.length_nil, Option.some.injEq, exists_eq_left', Nat.reduceAdd, Nat.reduceLeDiff, true_and, and_true, true_or, or_true, Int.zero_add, Nat.zero_le, eq_self, ne_eq, not_true_eq_false, not_false_eq_true, false_implies, true_implies, implies_true, b2i_0, b2i_1, b2i_01, up_sc, sc_at, sc_sc, ite_true, ite_false, if_true, if_false, Nat.reduceEqDiff, reduceIte, x2, go, gt]
          repeat' (first | intro _ | refine And.intro ?_ ?_)
          all_goals first | omega | contradiction | exact jl
    rw [s246_25]
    simp only [s246_26, s246_29, s246_30, s246_32, s246_33, s246_35, s246_36, Int.reduceToNat, Int.reducePow, Nat.reducePow, Int.reduceLE, Int.reduceLT, Int.reduceNeg, Int.reduceEq, Int.reduceNe, Int.reduceAdd, Int.reduceSub, Int.reduceMul, and_self, sx_push, tf, List.length_cons, List.length_nil, Option.some.injEq, exists_eq_left', Nat.reduceAdd, Nat.reduceLeDiff, true_and, and_true, true_or, or_true, Int.zero_add, Nat.zero_le, eq_self, ne_eq, not_true_eq_false, not_false_eq_true, false_implies, true_implies, implies_true, b2i_0, b2i_1, b2i_01, up_sc, sc_at, sc_sc, ite_true, ite_false, if_true, if_false, Nat.reduceEqDiff, reduceIte]
    repeat' (first | intro _ | refine And.intro ?_ ?_)
    all_goals first | omega | exact go
theorem x246i {len : Int} {u3 u4 u5 u6 u7 u8 : Option sxV} : ∀ (k : Nat) (p : Int) (σ1 : sxS), p + k = 40 → 0 ≤ p → (∀ q, q ≠ 164 → σ1 q = σ q) → (∀ q, 0 ≤ q → q < p → σ1 164 q = q) → (∀ σ', (∀ q, q ≠ 164 → σ' q = σ q) → gAg (σ' 164) (fun p => p) → Rn 246 21 [some (vR 149), some (vI len), some (vI 40), u3, u4, u5, u6, u7, u8] [] (T0 n) σ' K) → Rn 246 2 [some (vR 149), some (vI len), some (vI p), u3, u4, u5, u6, u7, u8] [] (T0 n) σ1 K := by
  intro k
  induction k with
  | zero =>
    intro p σ1 hp p0 h1 h2 hK
    obtain rfl : p = 40 := by omega
    have nx := hK σ1 h1 h2
    rw [s246_2]
    simp only [s246_3, s246_5, Int.reduceToNat, Int.reducePow, Nat.reducePow, Int.reduceLE, Int.reduceLT, Int.reduceNeg, Int.reduceEq, Int.reduceNe, Int.reduceAdd, Int.reduceSub, Int.reduceMul, and_self, sx_push, tf, List.length_cons, List.length_nil, Option.some.injEq, exists_eq_left', Nat.reduceAdd, Nat.reduceLeDiff, true_and, and_true, true_or, or_true, Int.zero_add, Nat.zero_le, eq_self, ne_eq, not_true_eq_false, not_false_eq_true, false_implies, true_implies, implies_true, b2i_0, b2i_1, b2i_01, up_sc, sc_at, sc_sc, ite_true, ite_false, if_true, if_false, Nat.reduceEqDiff, reduceIte]
    repeat' (first | intro _ | refine And.intro ?_ ?_)
    all_goals first | omega | exact nx
  | succ k ih =>
    intro p σ1 hp p0 h1 h2 hK
    have nx := ih (p + 1) (sc σ1 164 (up1 (σ1 164) p p)) (by omega) (by omega) (fun q hq => by rw [sc_at, if_neg hq, h1 q hq]) (fun q q0 q1 => by
      rw [sc_at, if_pos rfl]
      by_cases z : q = p
      · rw [z, up1_s]
      · rw [up1_n z]; exact h2 q q0 (by omega)) hK
    rw [s246_2]
    simp only [s246_3, s246_5, s246_8, s246_9, s246_12, s246_13, s246_14, s246_15, s246_18, Int.reduceToNat, Int.reducePow, Nat.reducePow, Int.reduceLE, Int.reduceLT, Int.reduceNeg, Int.reduceEq, Int.reduceNe, Int.reduceAdd, Int.reduceSub, Int.reduceMul, and_self, sx_push, tf, List.length_cons, List.length_nil, Option.some.injEq, exists_eq_left', Nat.reduceAdd, Nat.reduceLeDiff, true_and, and_true, true_or, or_true, Int.zero_add, Nat.zero_le, eq_self, ne_eq, not_true_eq_false, not_false_eq_true, false_implies, true_implies, implies_true, b2i_0, b2i_1, b2i_01, up_sc, sc_at, sc_sc, ite_true, ite_false, if_true, if_false, Nat.reduceEqDiff, reduceIte]
    repeat' (first | intro _ | refine And.intro ?_ ?_)
    all_goals first | omega | exact nx
theorem x246 {L0 : List Int} {len m : Int} (h150 : σ 150 = f) (h01 : th01 f) (hw : wfc f) (hl : (L0.length : Int) = m) (m1 : m < 40) (hc : m + 1 = cntF f 40 0 0 ∨ (m = 0 ∧ cntF f 40 0 0 = 0)) (hi : incM f L0 (-1)) (hK : ∀ σ' l1 l2 lo g, (∀ q, q ≠ 164 → q ≠ 165 → σ' q = σ q) → kkP f len L0 l1 l2 lo g σ' → (l2 = [] ∨ ∃ w l2', l2 = w :: l2' ∧ len < w / 4096) → K (some (vI l1.length)) (T0 n) σ') : Rn 246 0 [some (vR 149), some (vI len), none, none, none, none, none, none, none] [] (T0 n) σ K := by
  have nx : Rn 246 2 [some (vR 149), some (vI len), some (vI 0), none, none, none, none, none, none] [] (T0 n) σ K := by
    refine x246i (σ := σ) 40 0 σ (by omega) (by omega) (fun _ _ => rfl) (fun q q0 q1 => by omega) (fun σ1 f1 f2 => ?_)
    have lp := x246m (n := n) (K := K) (L0 := L0) (len := len) h01 hw hl m1 hc L0.length [] L0 (-1) (fun p => p) σ1 none none none none none rfl (by rw [f1 150 (by decide), h150]) ⟨rfl, kSt_0 hw hi, f2, trivial, fun w hw => by cases hw⟩ (fun σ' l1 l2 lo g q1 q2 q3 => hK σ' l1 l2 lo g (fun q a b => by rw [q1 q a b, f1 q a]) q2 q3)
    have lp' : Rn 246 25 [some (vR 149), some (vI len), some (vI 0), some (vI 1), none, none, none, none, none] [] (T0 n) σ1 K := lp
    simp only [s246_21, s246_22, s246_23, s246_24, Int.reduceToNat, Int.reducePow, Nat.reducePow, Int.reduceLE, Int.reduceLT, Int.reduceNeg, Int.reduceEq, Int.reduceNe, Int.reduceAdd, Int.reduceSub, Int.reduceMul, and_self, sx_push, tf, List.length_cons, List.length_nil, Option.some.injEq, exists_eq_left', Nat.reduceAdd, Nat.reduceLeDiff, true_and, and_true, true_or, or_true, Int.zero_add, Nat.zero_le, eq_self, ne_eq, not_true_eq_false, not_false_eq_true, false_implies, true_implies, implies_true, b2i_0, b2i_1, b2i_01, up_sc, sc_at, sc_sc, ite_true, ite_false, if_true, if_false, Nat.reduceEqDiff, reduceIte]
    repeat' (first | intro _ | refine And.intro ?_ ?_)
    all_goals first | omega | exact lp'
  simp only [s246_0, s246_1, Int.reduceToNat, Int.reducePow, Nat.reducePow, Int.reduceLE, Int.reduceLT, Int.reduceNeg, Int.reduceEq, Int.reduceNe, Int.reduceAdd, Int.reduceSub, Int.reduceMul, and_self, sx_push, tf, List.length_cons, List.length_nil, Option.some.injEq, exists_eq_left', Nat.reduceAdd, Nat.reduceLeDiff, true_and, and_true, true_or, or_true, Int.zero_add, Nat.zero_le, eq_self, ne_eq, not_true_eq_false, not_false_eq_true, false_implies, true_implies, implies_true, b2i_0, b2i_1, b2i_01, up_sc, sc_at, sc_sc, ite_true, ite_false, if_true, if_false, Nat.reduceEqDiff, reduceIte]
  repeat' (first | intro _ | refine And.intro ?_ ?_)
  all_goals first | omega | exact nx
end L4
