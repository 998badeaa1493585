/-! a text: a word: the reference -/
abbrev sml (v : Int) : Prop := 97 ≤ v ∧ v ≤ 122
abbrev dgt (v : Int) : Prop := 48 ≤ v ∧ v ≤ 57
def ltF (t : Int → Int) (L : Int) : Nat → Int → Int
  | 0, a => a
  | k + 1, a => if sml (bt t L a) then ltF t L k (a + 1) else a
section S4
variable {n : Nat} {σ : sxS} {K : Option sxV → sxT → sxS → Prop} {t : Int → Int} {L : Int}
theorem x177l : ∀ (k : Nat) (a : Int) (σ : sxS), σ 149 12 = L → L ≤ 1600 → (∀ j, 0 ≤ j → j < L → σ 154 j = t j) → σ 149 13 = a → 0 ≤ a → a ≤ L → L ≤ a + k → K none (T0 n) (sc σ 149 (up1 (σ 149) 13 (ltF t L k a))) → Rn 177 68 [some (vR 149)] [] (T0 n) σ K := by
  intro k
  induction k with
  | zero =>
    intro a σ hL hl ht ha a0 a1 a2 hK
    have e : bt t L a = -1 := bt_out (by omega)
    have st : sc σ 149 (up1 (σ 149) 13 a) = σ := by rw [← ha, up1_id, sc_id]
    change K none (T0 n) (sc σ 149 (up1 (σ 149) 13 a)) at hK
    rw [st] at hK
    rw [s177_68]
    simp only [s177_69, s177_70, s177_73, s177_76, s177_92, sx_push, tf, List.length_cons, List.length_nil, Option.some.injEq, exists_eq_left', Nat.reduceAdd, Nat.reduceLeDiff, true_and, and_true, true_or, or_true, Int.zero_add, Nat.zero_le, eq_self, ne_eq, not_true_eq_false, not_false_eq_true, false_implies, true_implies, implies_true, b2i_0, b2i_1, b2i_01, up_sc, sc_at, sc_sc, ite_true, ite_false, if_true, if_false, Nat.reduceEqDiff, reduceIte, x181 hL hl ht, ha, e]
    repeat' (first | intro _ | refine And.intro ?_ ?_)
    all_goals first | omega | exact hK
  | succ k ih =>
    intro a σ hL hl ht ha a0 a1 a2 hK
    unfold ltF at hK
    rw [s177_68]
    by_cases e : sml (bt t L a)
    · rw [if_pos e] at hK
      have al : a < L := by
        apply Classical.byContradiction
        intro z
        rw [bt_out (by omega)] at e
        unfold sml at e; omega
      unfold sml at e
      have go := ih (a + 1) (sc σ 149 (up1 (σ 149) 13 (a + 1))) (by simp only [sc_at, reduceIte]; rw [up1_n (by omega)]; exact hL) hl (by simpa [sc_at] using ht) (by simp only [sc_at, reduceIte]; rw [up1_s]) (by omega) (by omega) (by omega) (by simp only [sc_at, reduceIte, sc_sc, up1_up1]; exact hK)
      simp only [s177_69, s177_70, s177_73, s177_76, s177_79, s177_80, s177_81, s177_84, s177_85, s177_86, s177_89, sx_push, tf, List.length_cons, List.length_nil, Option.some.injEq, exists_eq_left', Nat.reduceAdd, Nat.reduceLeDiff, true_and, and_true, true_or, or_true, Int.zero_add, Nat.zero_le, eq_self, ne_eq, not_true_eq_false, not_false_eq_true, false_implies, true_implies, implies_true, b2i_0, b2i_1, b2i_01, up_sc, sc_at, sc_sc, ite_true, ite_false, if_true, if_false, Nat.reduceEqDiff, reduceIte, x181 hL hl ht, ha]
      repeat' (first | intro _ | refine And.intro ?_ ?_)
      all_goals first | omega | exact go
    · rw [if_neg e] at hK
      have st : sc σ 149 (up1 (σ 149) 13 a) = σ := by rw [← ha, up1_id, sc_id]
      rw [st] at hK
      unfold sml at e
      simp only [s177_69, s177_70, s177_73, s177_76, s177_92, sx_push, tf, List.length_cons, List.length_nil, Option.some.injEq, exists_eq_left', Nat.reduceAdd, Nat.reduceLeDiff, true_and, and_true, true_or, or_true, Int.zero_add, Nat.zero_le, eq_self, ne_eq, not_true_eq_false, not_false_eq_true, false_implies, true_implies, implies_true, b2i_0, b2i_1, b2i_01, up_sc, sc_at, sc_sc, ite_true, ite_false, if_true, if_false, Nat.reduceEqDiff, reduceIte, x181 hL hl ht, ha]
      repeat' (first | intro _ | refine And.intro ?_ ?_)
      all_goals first | omega | exact hK
theorem x177n (h : σ 149 15 ≠ 0) : Rn 177 0 [some (vR 149)] [] (T0 n) σ K ↔ K none (T0 n) σ := by
  refine Rn_iff fun K hK => ?_
  simp only [s177_0, s177_1, s177_4, s177_7, sx_push, tf, List.length_cons, List.length_nil, Option.some.injEq, exists_eq_left', Nat.reduceAdd, Nat.reduceLeDiff, true_and, and_true, true_or, or_true, Int.zero_add, Nat.zero_le, eq_self, ne_eq, not_true_eq_false, not_false_eq_true, false_implies, true_implies, implies_true, b2i_0, b2i_1, b2i_01, up_sc, sc_at, sc_sc, ite_true, ite_false, if_true, if_false, Nat.reduceEqDiff, reduceIte, x178]
  repeat' (first | intro _ | refine And.intro ?_ ?_)
  all_goals first | exact hK | omega | contradiction
end S4
