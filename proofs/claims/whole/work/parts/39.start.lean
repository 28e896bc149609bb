-- both as they are made
theorem rR_00 : rR 0 c00 m00 := by
  have z : ∀ j k, ¬ ((j = 0 ∧ k = 6) ∨ (5 ≤ j ∧ j < 21 ∧ j % 2 = 1 ∧ k = 7) ∨ (21 ≤ j ∧ (k = 1 ∨ k = 2))) → c00 j k = 0 := fun j k h => if_neg h
  have w : ∀ j k, j ≠ 9 → m00 j k = 0 := fun j k h => if_neg (by omega)
  have w9 : ∀ k, k < 6 → m00 9 k = (-1) := fun k h => if_pos ⟨rfl, h⟩
  refine ⟨⟨⟨?_, ?_, ?_, ?_, ?_⟩, ?_, ?_, ?_, ?_, ?_, ?_, ?_, ?_, ?_⟩, ?_⟩
  · rw [z _ _ (by omega), w _ _ (by omega)]
  · rw [z _ _ (by omega), w _ _ (by omega)]
  · rw [z _ _ (by omega), w _ _ (by omega)]
  · rw [z _ _ (by omega), w _ _ (by omega)]
  · intro i
    rw [z _ _ (by omega), w _ _ (by omega)]
  · intro t ht
    rw [z _ 0 (by omega), z _ 1 (by omega), z _ 2 (by omega), z _ 8 (by omega), z _ 9 (by omega), w _ _ (by omega), w _ _ (by omega), w _ _ (by omega), w _ _ (by omega), w _ _ (by omega)]
    exact ⟨rfl, rfl, rfl, rfl, rfl⟩
  · intro t k ht hk
    rw [z _ _ (by omega), w _ _ (by omega)]
  · intro t ht
    exact Or.inl ⟨z _ _ (by omega), w _ _ (by omega), by rw [w _ _ (by omega), w _ _ (by omega)]⟩
  · intro t ht
    exact Or.inl ⟨w _ _ (by omega), w _ _ (by omega), fun k hk => w _ _ (by omega)⟩
  · intro k hk
    exact ⟨by rw [w9 k hk]; exact if_pos (Or.inr (Or.inr ⟨by omega, Or.inl rfl⟩)), Or.inl (w9 k hk)⟩
  · intro j k hj hk h1
    exact absurd (w9 j hj) h1
  · intro t ht
    refine Or.inl ⟨if_pos (Or.inr (Or.inl ⟨by omega, by omega, by omega, rfl⟩)), fun j hj e => ?_⟩
    rw [w9 j hj] at e
    exact absurd e.symm (nI_neg (by omega))
  · exact Or.inl ⟨w _ _ (by omega), fun t ht => w _ _ (by omega)⟩
  · exact ⟨0, 0, 0, 0, w _ _ (by omega), by omega, w _ _ (by omega), by omega, w _ _ (by omega), by omega, w _ _ (by omega), by omega⟩
  · rw [runner_none (fun t ht => w _ _ (by omega))]
    exact if_pos (Or.inl ⟨rfl, rfl⟩)
