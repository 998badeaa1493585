/-! what holds at the start -/
section I7
variable {n : Nat} {σ : sxS} {K : Option sxV → sxT → sxS → Prop}
theorem sta (h : ∀ k j, k ≠ 0 → σ k j = 0) {σ1 σ2 : sxS} (h1 : clI σ σ1) (h2 : mdI σ1 σ2) : Rel 0 σ2 ∧ σ2 0 = σ 0 := by
  obtain ⟨a1, a2, a3, a4, a5, a6, a7⟩ := h1
  obtain ⟨b1, ⟨c4, c5, c6, c8, c10, c11, c26, c30, c36, c41⟩, b3⟩ := h2
  have z : ∀ k, k = 2 ∨ k = 3 ∨ k = 8 ∨ k = 11 ∨ k = 17 ∨ k = 18 ∨ (119 < k ∧ k ≠ 126) → k ≠ 149 → k ≠ 156 → ∀ j, σ2 k j = 0 := fun k k1 k2 k3 j => by
    rw [b1 k k2 k3, a1 k (by omega)]; exact h k j (by omega)
  have e7 : σ2 7 = up1 (up1 (σ 7) 4 (-1)) 5 (-1) := by rw [b1 7 (by decide) (by decide), a4]
  have e9 : ∀ j, 0 ≤ j → j < 40 → σ2 9 j = -1 := fun j j0 j1 => by rw [b1 9 (by decide) (by decide)]; exact a5 j j0 j1
  have f0 : ∀ j, σ2 150 j = 0 := z 150 (by decide) (by decide) (by decide)
  have e119 : σ2 119 = up1 (up1 (σ 119) 10 (-1)) 1 1 := by rw [b1 119 (by decide) (by decide), a6]
  have e126 : σ2 126 = up1 (up1 (σ 126) 10 (-1)) 1 (-1) := by rw [b1 126 (by decide) (by decide), a7]
  refine ⟨⟨⟨⟨fun p p0 p1 => Or.inr ⟨f0 p, ?_⟩, fun p p0 p1 hp => ?_, ?_, ?_⟩, fun p p0 p1 _ => e9 p p0 p1, fun p p0 p1 => ⟨fun hp => ?_, fun _ => z 11 (by decide) (by decide) (by decide) p⟩⟩, ?_, ?_, ?_, ?_, ?_, ?_, ?_, ?_, ?_, ?_, ?_, ?_⟩, ?_⟩
  · have := e9 p p0 p1
    show σ2 9 p < 0
    omega
  · rw [f0] at hp; omega
  · rw [e7, up1_s]
    rcases rootF_sp (σ2 150) 40 0 with ⟨w, _⟩ | ⟨_, _, w, _⟩
    · exact w.symm
    · rw [f0] at w; omega
  · rw [e7, up1_n (by omega), up1_n (by omega), h 7 6 (by decide), cntF_none 40 0 0 (by omega) (fun q _ _ => f0 q)]
  · rw [f0] at hp; omega
  · refine ⟨⟨fun p _ _ => Or.inl (f0 p), fun p _ _ => ?_, fun p _ _ hp => ?_, fun p q _ _ _ _ hp => ?_, fun p _ _ hp => ?_⟩, fun p _ _ hp => ?_, fun p k _ _ _ _ => ?_, ?_, ?_⟩
    · rw [f0, f0, f0]; exact ⟨⟨by omega, by omega⟩, ⟨by omega, by omega⟩, by omega, by omega⟩
    · rw [f0] at hp; omega
    · rw [f0] at hp; omega
    · rw [f0] at hp; omega
    · rw [f0] at hp; omega
    · rw [f0]; omega
    · rw [f0]; omega
    · rw [f0]; omega
  · exact Or.inr ⟨c6, by rw [e7, up1_n (by omega), up1_s], fun p _ _ => f0 p⟩
  · refine ⟨?_, by rw [c4]; omega, ?_, fun w => ?_, fun i i0 i1 => ?_⟩
    · rw [c4]; exact z 17 (by decide) (by decide) (by decide) 2
    · rw [z 17 (by decide) (by decide) (by decide) 1]; omega
    · rw [c4] at w; omega
    · rw [c4] at i1; omega
  · refine ⟨?_, by rw [c8]; omega, fun j j0 j1 => ?_⟩
    · rw [c8]; exact z 2 (by decide) (by decide) (by decide) 1
    · rw [c8] at j1; omega
  · intro w w0 w1
    rw [z 148 (by decide) (by decide) (by decide), z 155 (by decide) (by decide) (by decide)]
    omega
  · refine ⟨?_, by rw [c5]; omega, by rw [c5]; omega⟩
    rw [c5, b1 1 (by decide) (by decide), a2, up1_s]
  · refine ⟨?_, ?_⟩
    · rw [c10, b1 4 (by decide) (by decide), a3, up1_n (by omega)]; exact h 4 5 (by decide)
    · rw [c11, b1 4 (by decide) (by decide), a3, up1_s]
  · refine ⟨?_, by rw [c30]; omega, Or.inl ⟨c26, ?_, c30⟩, fun k k0 k1 => ?_⟩
    · rw [c30, e119, up1_n (by omega), up1_n (by omega)]; exact h 119 8 (by decide)
    · rw [e119, up1_n (by omega), up1_s]
    · rw [c30] at k1; omega
  · refine ⟨?_, by rw [c36]; omega, fun k k0 k1 => ?_⟩
    · rw [c36]; exact z 141 (by decide) (by decide) (by decide) 5
    · rw [c36] at k1; omega
  · refine ⟨?_, by rw [c41]; omega, fun k k0 k1 => ?_⟩
    · rw [c41]; exact z 146 (by decide) (by decide) (by decide) 1
    · rw [c41] at k1; omega
  · rw [e119, e126, up1_s, up1_s, up1_n (by omega), up1_n (by omega), up1_n (by omega), up1_n (by omega), h 119 11 (by decide), h 126 11 (by decide)]
    exact ⟨⟨rfl, rfl⟩, by omega, by omega, by omega⟩
  · intro k k0 k1
    have w := b3 ⟨k.toNat, by omega⟩
    simp only at w
    rw [show ((k.toNat : Nat) : Int) = k by omega] at w
    exact w
  · rw [b1 0 (by decide) (by decide), a1 0 (by decide)]
end I7
