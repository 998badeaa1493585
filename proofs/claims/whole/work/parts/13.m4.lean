/-! one that rises: of the reference -/
theorem nearF_ne (f : Int → Int) (l x y z : Int) : ∀ (k : Nat) (p b : Int), 0 ≤ p → 0 ≤ b → nearF f l x y z k p b ≠ -1 := by
  intro k
  induction k with
  | zero => intro p b _ h; show b ≠ -1; omega
  | succ k ih =>
    intro p b h0 hb
    unfold nearF
    refine ih _ _ (by omega) ?_
    split <;> omega
theorem nearF_some (f : Int → Int) (l x y z r : Int) (hr : f r = 1 ∧ l ≤ f (160 + r)) : ∀ (k : Nat) (p b : Int), 0 ≤ p → (b = -1 ∨ 0 ≤ b) → p ≤ r → r < p + k → nearF f l x y z k p b ≠ -1 := by
  intro k
  induction k with
  | zero => intro p b _ _ h1 h2; exfalso; simp at h2; omega
  | succ k ih =>
    intro p b h0 hb h1 h2
    unfold nearF
    by_cases e : p = r
    · subst e
      refine nearF_ne f l x y z _ _ _ (by omega) ?_
      rcases hb with hb | hb
      · rw [if_pos ⟨hr, Or.inl hb⟩]; omega
      · split <;> omega
    · refine ih _ _ (by omega) ?_ (by omega) (by omega)
      split <;> omega
theorem near_some {f : Int → Int} {l x y z r : Int} (h0 : 0 ≤ r) (h1 : r < 40) (hr : f r = 1 ∧ l ≤ f (160 + r)) : near f l x y z ≠ -1 := nearF_some f l x y z r hr 40 0 (-1) (by omega) (Or.inl rfl) h0 (by omega)
def riseF : Nat → (Int → Int) → Int → (Int → Int)
  | 0, f, _ => f
  | m + 1, f, p => if near f (f (160 + p) + 1) (f (40 + p)) (f (80 + p)) (f (120 + p)) = -1 ∨ 2 * 2 ^ (f (160 + p)).toNat ≤ farT f (near f (f (160 + p) + 1) (f (40 + p)) (f (80 + p)) (f (120 + p))) (f (40 + p)) (f (80 + p)) (f (120 + p)) then riseF m (up1 f (160 + p) (f (160 + p) + 1)) p else up1 f (200 + p) (near f (f (160 + p) + 1) (f (40 + p)) (f (80 + p)) (f (120 + p)))
def rise (f : Int → Int) (p : Int) : Int → Int := riseF (10 - f (160 + p)).toNat f p
theorem wfc_up {f : Int → Int} {i v : Int} (h : wfc f) (hi : 160 ≤ i) : wfc (up1 f i v) := by
  intro p h0 h1
  have := h p h0 h1
  rw [up1_n (by omega), up1_n (by omega), up1_n (by omega)]
  exact this
section M4
variable {n : Nat} {K : Option sxV → sxT → sxS → Prop}
theorem x256l {p r : Int} (h0 : 0 ≤ p) (h1 : p < 40) (r0 : 0 ≤ r) (r1 : r < 40) (hpr : p ≠ r) : ∀ (m : Nat) (σ : sxS), wfc (σ 150) → σ 150 r = 1 → 10 ≤ σ 150 (160 + r) → 0 ≤ σ 150 (160 + p) → σ 150 (160 + p) + m = 10 → 1 ≤ m → K none (T0 n) (sc σ 150 (riseF m (σ 150) p)) → Rn 256 44 [some (vR 149), some (vI p), some (vI (near (σ 150) (σ 150 (160 + p) + 1) (σ 150 (40 + p)) (σ 150 (80 + p)) (σ 150 (120 + p))))] [] (T0 n) σ K := by
  intro m
  induction m with
  | zero => intro σ _ _ _ _ _ h; omega
  | succ m ih =>
    intro σ hw hr hr' hl hm _ hK
    obtain ⟨w1, w2, w3⟩ := hw p h0 h1
    have pw := pw_in (k := σ 150 (160 + p)) (by omega) (by omega)
    unfold riseF at hK
    generalize hq : near (σ 150) (σ 150 (160 + p) + 1) (σ 150 (40 + p)) (σ 150 (80 + p)) (σ 150 (120 + p)) = q at hK ⊢
    have hqin := near_in (σ 150) (σ 150 (160 + p) + 1) (σ 150 (40 + p)) (σ 150 (80 + p)) (σ 150 (120 + p))
    rw [hq] at hqin
    have hw' : wfc (up1 (σ 150) (160 + p) (σ 150 (160 + p) + 1)) := wfc_up hw (by omega)
    have hlast : m = 0 → q ≠ -1 := fun z => by rw [← hq]; exact near_some r0 r1 ⟨hr, by omega⟩
    have e1 : up1 (σ 150) (160 + p) (σ 150 (160 + p) + 1) (160 + p) = σ 150 (160 + p) + 1 := up1_s _ _ _
    have e2 : up1 (σ 150) (160 + p) (σ 150 (160 + p) + 1) (40 + p) = σ 150 (40 + p) := up1_n (by omega)
    have e3 : up1 (σ 150) (160 + p) (σ 150 (160 + p) + 1) (80 + p) = σ 150 (80 + p) := up1_n (by omega)
    have e4 : up1 (σ 150) (160 + p) (σ 150 (160 + p) + 1) (120 + p) = σ 150 (120 + p) := up1_n (by omega)
    have e5 : up1 (σ 150) (160 + p) (σ 150 (160 + p) + 1) r = 1 := by rw [up1_n (by omega)]; exact hr
    have e6 : up1 (σ 150) (160 + p) (σ 150 (160 + p) + 1) (160 + r) = σ 150 (160 + r) := up1_n (by omega)
    have again : (q = -1 ∨ 2 * 2 ^ (σ 150 (160 + p)).toNat ≤ farT (σ 150) q (σ 150 (40 + p)) (σ 150 (80 + p)) (σ 150 (120 + p))) → 1 ≤ m → Rn 256 44 [some (vR 149), some (vI p), some (vI (near (up1 (σ 150) (160 + p) (σ 150 (160 + p) + 1)) (σ 150 (160 + p) + 1 + 1) (σ 150 (40 + p)) (σ 150 (80 + p)) (σ 150 (120 + p))))] [] (T0 n) (sc σ 150 (up1 (σ 150) (160 + p) (σ 150 (160 + p) + 1))) K := by
      intro hc hm1
      rw [if_pos hc] at hK
      have := ih (sc σ 150 (up1 (σ 150) (160 + p) (σ 150 (160 + p) + 1))) (by rw [sc_at, if_pos rfl]; exact hw') (by rw [sc_at, if_pos rfl]; exact e5) (by rw [sc_at, if_pos rfl, e6]; exact hr') (by rw [sc_at, if_pos rfl, e1]; omega) (by rw [sc_at, if_pos rfl, e1]; omega) hm1 (by rw [sc_at, if_pos rfl, sc_sc]; exact hK)
      simp only [sc_at, if_true, e1, e2, e3, e4] at this
      exact this
    rw [s256_44]
    rcases hqin with rfl | ⟨q0, q1, -, -⟩
    · have hm1 : 1 ≤ m := by
        rcases Nat.eq_zero_or_pos m with z | z
        · exact absurd rfl (hlast z)
        · exact z
      simp only [s256_0, s256_1, s256_2, s256_5, s256_8, s256_9, s256_10, s256_11, s256_12, s256_13, s256_14, s256_17, s256_19, s256_20, s256_21, s256_22, s256_23, s256_26, s256_28, s256_29, s256_30, s256_31, s256_32, s256_35, s256_37, s256_38, s256_39, s256_40, s256_43, s256_45, s256_46, s256_49, s256_50, s256_51, s256_52, s256_55, s256_56, s256_57, s256_60, s256_63, s256_64, s256_65, s256_66, s256_67, s256_70, s256_71, s256_74, s256_77, s256_78, s256_79, s256_80, s256_81, s256_82, s256_83, s256_84, s256_85, s256_86, s256_89, s256_92, s256_93, s256_94, s256_95, s256_96, s256_97, s256_98, s256_101, s256_103, s256_104, s256_105, s256_106, s256_107, s256_110, s256_112, s256_113, s256_114, s256_115, s256_116, s256_119, s256_121, s256_122, s256_123, s256_124, s256_127, s256_128, s256_131, s256_132, s256_135, s256_138, s256_139, s256_140, s256_141, s256_142, sx_push, tf, List.length_cons, List.length_nil, Option.some.injEq, exists_eq_left', Nat.reduceAdd, Nat.reduceLeDiff, true_and, and_true, true_or, or_true, Int.zero_add, Nat.zero_le, eq_self, ne_eq, not_true_eq_false, not_false_eq_true, false_implies, true_implies, implies_true, b2i_0, b2i_1, b2i_01, up_sc, sc_at, sc_sc, ite_true, ite_false, if_true, if_false, Nat.reduceEqDiff, reduceIte, x193 (σ := sc σ 150 (up1 (σ 150) (160 + p) (σ 150 (160 + p) + 1))) (by rw [sc_at, if_pos rfl]; exact hw') w1 w2 w3, e1, e2, e3, e4]
      repeat' (first | intro _ | refine And.intro ?_ ?_)
      all_goals first | omega | exact again (Or.inl rfl) hm1
    · have hf := farF_in (m := σ 150 480) (hw _ q0 q1).1 (hw _ q0 q1).2.1 (hw _ q0 q1).2.2 w1 w2 w3
      have hf' : 0 ≤ farT (σ 150) q (σ 150 (40 + p)) (σ 150 (80 + p)) (σ 150 (120 + p)) ∧ farT (σ 150) q (σ 150 (40 + p)) (σ 150 (80 + p)) (σ 150 (120 + p)) ≤ 765 := hf
      have hm1 : 2 * 2 ^ (σ 150 (160 + p)).toNat ≤ farT (σ 150) q (σ 150 (40 + p)) (σ 150 (80 + p)) (σ 150 (120 + p)) → 1 ≤ m := by
        intro h
        rcases Nat.eq_zero_or_pos m with z | z
        · exfalso
          rw [show σ 150 (160 + p) = 9 by omega] at h
          have : (2 : Int) * 2 ^ (9 : Int).toNat = 1024 := by decide
          omega
        · exact z
      simp only [s256_0, s256_1, s256_2, s256_5, s256_8, s256_9, s256_10, s256_11, s256_12, s256_13, s256_14, s256_17, s256_19, s256_20, s256_21, s256_22, s256_23, s256_26, s256_28, s256_29, s256_30, s256_31, s256_32, s256_35, s256_37, s256_38, s256_39, s256_40, s256_43, s256_45, s256_46, s256_49, s256_50, s256_51, s256_52, s256_55, s256_56, s256_57, s256_60, s256_63, s256_64, s256_65, s256_66, s256_67, s256_70, s256_71, s256_74, s256_77, s256_78, s256_79, s256_80, s256_81, s256_82, s256_83, s256_84, s256_85, s256_86, s256_89, s256_92, s256_93, s256_94, s256_95, s256_96, s256_97, s256_98, s256_101, s256_103, s256_104, s256_105, s256_106, s256_107, s256_110, s256_112, s256_113, s256_114, s256_115, s256_116, s256_119, s256_121, s256_122, s256_123, s256_124, s256_127, s256_128, s256_131, s256_132, s256_135, s256_138, s256_139, s256_140, s256_141, s256_142, sx_push, tf, List.length_cons, List.length_nil, Option.some.injEq, exists_eq_left', Nat.reduceAdd, Nat.reduceLeDiff, true_and, and_true, true_or, or_true, Int.zero_add, Nat.zero_le, eq_self, ne_eq, not_true_eq_false, not_false_eq_true, false_implies, true_implies, implies_true, b2i_0, b2i_1, b2i_01, up_sc, sc_at, sc_sc, ite_true, ite_false, if_true, if_false, Nat.reduceEqDiff, reduceIte, x216 hw q0 q1 h0 h1, x193 (σ := sc σ 150 (up1 (σ 150) (160 + p) (σ 150 (160 + p) + 1))) (by rw [sc_at, if_pos rfl]; exact hw') w1 w2 w3, e1, e2, e3, e4]
      repeat' (first | intro _ | refine And.intro ?_ ?_)
      all_goals first | omega | (exact again (Or.inr (by assumption)) (hm1 (by assumption))) | (rw [if_neg (by omega)] at hK; exact hK)
theorem x256 {σ : sxS} {p r : Int} (h0 : 0 ≤ p) (h1 : p < 40) (r0 : 0 ≤ r) (r1 : r < 40) (hpr : p ≠ r) (hw : wfc (σ 150)) (hr : σ 150 r = 1) (hr' : 10 ≤ σ 150 (160 + r)) (hl : 0 ≤ σ 150 (160 + p)) (hl' : σ 150 (160 + p) ≤ 9) : Rn 256 0 [some (vR 149), some (vI p), none] [] (T0 n) σ K ↔ K none (T0 n) (sc σ 150 (rise (σ 150) p)) := by
  refine Rn_iff fun K hK => ?_
  obtain ⟨w1, w2, w3⟩ := hw p h0 h1
  simp only [s256_0, s256_1, s256_2, s256_5, s256_8, s256_9, s256_10, s256_11, s256_12, s256_13, s256_14, s256_17, s256_19, s256_20, s256_21, s256_22, s256_23, s256_26, s256_28, s256_29, s256_30, s256_31, s256_32, s256_35, s256_37, s256_38, s256_39, s256_40, s256_43, s256_45, s256_46, s256_49, s256_50, s256_51, s256_52, s256_55, s256_56, s256_57, s256_60, s256_63, s256_64, s256_65, s256_66, s256_67, s256_70, s256_71, s256_74, s256_77, s256_78, s256_79, s256_80, s256_81, s256_82, s256_83, s256_84, s256_85, s256_86, s256_89, s256_92, s256_93, s256_94, s256_95, s256_96, s256_97, s256_98, s256_101, s256_103, s256_104, s256_105, s256_106, s256_107, s256_110, s256_112, s256_113, s256_114, s256_115, s256_116, s256_119, s256_121, s256_122, s256_123, s256_124, s256_127, s256_128, s256_131, s256_132, s256_135, s256_138, s256_139, s256_140, s256_141, s256_142, sx_push, tf, List.length_cons, List.length_nil, Option.some.injEq, exists_eq_left', Nat.reduceAdd, Nat.reduceLeDiff, true_and, and_true, true_or, or_true, Int.zero_add, Nat.zero_le, eq_self, ne_eq, not_true_eq_false, not_false_eq_true, false_implies, true_implies, implies_true, b2i_0, b2i_1, b2i_01, up_sc, sc_at, sc_sc, ite_true, ite_false, if_true, if_false, Nat.reduceEqDiff, reduceIte, x193 hw w1 w2 w3]
  repeat' (first | intro _ | refine And.intro ?_ ?_)
  all_goals first | omega | exact x256l h0 h1 r0 r1 hpr _ σ hw hr hr' hl (by omega) (by omega) hK
end M4
