-- what is noted, and who runs then
section TELL
variable {n B B' : Nat} {c c' m m' : St}
theorem rW_mono (hB : B ≤ B') (h : rW n B c m) : rW n B' c m := by
  obtain ⟨h1, h2, h3, h4, h5, h6, h7, h8, h9, a, b, d, e, q1, q2, q3, q4, q5, q6, q7, q8⟩ := h
  exact ⟨h1, h2, h3, h4, h5, h6, h7, h8, h9, a, b, d, e, q1, q2, q3, q4, q5, q6, q7, by omega⟩
theorem rW_runner (h : rW n B c m) (x : Int32) : rW n B (wr c 0 6 x) m := by
  obtain ⟨hS, hT, hL, hQ, hD, hH, hU, hC, hE, hN⟩ := h
  have cj : ∀ j, j ≠ 0 → wr c 0 6 x j = c j := fun j hj => wr_cell hj
  have c0 : ∀ k, k ≠ 6 → wr c 0 6 x 0 k = c 0 k := fun k hk => wr_ne (fun z => hk z.2)
  refine ⟨?_, ?_, ?_, ?_, hD, ?_, hU, ?_, ?_, hN⟩
  · unfold rS
    rw [c0 3 (by decide), c0 4 (by decide), c0 5 (by decide), cj 3 (by decide), cj 4 (by decide)]
    exact hS
  · intro t ht
    rw [cj _ (by omega)]
    exact hT t ht
  · intro t k ht hk
    rw [cj _ (by omega)]
    exact hL t k ht hk
  · intro t ht
    rw [cj _ (by omega)]
    exact hQ t ht
  · intro k hk
    rw [cj _ (by omega)]
    exact hH k hk
  · intro t ht
    rw [cj _ (by omega)]
    exact hC t ht
  · rcases hE with h | ⟨h1, h2⟩
    · exact Or.inl h
    · exact Or.inr ⟨h1, fun k hk => by rw [cj _ (by omega)]; exact h2 k hk⟩
theorem rW_notes (h : rW n B c m) (hc : ∀ j, j ≠ 3 → j ≠ 4 → c' j = c j) (hm : ∀ j, j ≠ 0 → j ≠ 12 → m' j = m j) (hm0 : ∀ k, k ≠ 16 → m' 0 k = m 0 k) (h1 : c' 3 1 = m' 0 16) (h2 : ∀ i, c' 4 i = m' 12 i) (h3 : ∃ e, m' 0 16 = nI e ∧ e ≤ B') : rW n B' c' m' := by
  obtain ⟨hS, hT, hL, hQ, hD, hH, hU, hC, hE, hN⟩ := h
  have e1 := hm 1 (by decide) (by decide)
  have e2 := hm 2 (by decide) (by decide)
  have e3 := hm 3 (by decide) (by decide)
  have e4 := hm 4 (by decide) (by decide)
  have e5 := hm 5 (by decide) (by decide)
  have e6 := hm 6 (by decide) (by decide)
  have e7 := hm 7 (by decide) (by decide)
  have e8 := hm 8 (by decide) (by decide)
  have e9 := hm 9 (by decide) (by decide)
  have e10 := hm 10 (by decide) (by decide)
  have e11 := hm 11 (by decide) (by decide)
  have c0 := hc 0 (by decide) (by decide)
  have ct : ∀ t, c' (5 + 2 * t) = c (5 + 2 * t) := fun t => hc _ (by omega) (by omega)
  have cl : ∀ t, c' (5 + 2 * t + 1) = c (5 + 2 * t + 1) := fun t => hc _ (by omega) (by omega)
  have ck : ∀ k, c' (21 + k) = c (21 + k) := fun k => hc _ (by omega) (by omega)
  have a1 := hm0 1 (by decide)
  have a2 := hm0 2 (by decide)
  have a3 := hm0 3 (by decide)
  have a15 := hm0 15 (by decide)
  have hlast : ∀ r b y, isLast m' r b y = isLast m r b y := by
    intro r b y
    unfold isLast
    rw [e9, e11]
  refine ⟨⟨by rw [c0, a1]; exact hS.1, by rw [c0, a2]; exact hS.2.1, by rw [c0, a3]; exact hS.2.2.1, h1, h2⟩, ?_, ?_, ?_, ?_, ?_, ?_, ?_, ?_, ?_⟩
  · intro t ht
    rw [ct, e1, e2, e3, e6, e7]
    exact hT t ht
  · intro t k ht hk
    rw [cl, e8]
    exact hL t k ht hk
  · intro t ht
    rw [ct, e4, e5, e1]
    exact hQ t ht
  · intro t ht
    rw [e1, e3, e8]
    exact hD t ht
  · intro k hk
    rw [ck, e9, e10, e11, e4, a15, hlast]
    exact hH k hk
  · unfold rU
    rw [e9, e11]
    exact hU
  · intro t ht
    rw [ct, hlast, a15]
    exact hC t ht
  · rcases hE with ⟨q1, q2⟩ | ⟨q1, q2⟩
    · exact Or.inl ⟨by rw [a1]; exact q1, fun t ht => by rw [e4]; exact q2 t ht⟩
    · exact Or.inr ⟨by rw [a1]; exact q1, fun k hk => by rw [ck, top_congr e1 e8]; exact q2 k hk⟩
  · obtain ⟨a, b, d, e, q1, q2, q3, q4, q5, q6, q7, q8⟩ := hN
    obtain ⟨e', r1, r2⟩ := h3
    exact ⟨a, b, d, e', by rw [a2]; exact q1, q2, by rw [a3]; exact q3, q4, by rw [a15]; exact q5, q6, r1, r2⟩
theorem write_0 (c : St) (w t k x : Int32) : f_N_write c w t k x 0 = c 0 := by
  unfold f_N_write f_N_write_S38
  rw [wr_cell (by decide), wr_cell (by decide)]
theorem add_4 (m : St) (w t k : Int32) : f_M_add m w t k 4 = m 4 ∧ f_M_add m w t k 5 = m 5 := by
  unfold f_M_add f_M_add_S36
  exact ⟨by rw [wr_cell (by decide), wr_cell (by decide)], by rw [wr_cell (by decide), wr_cell (by decide)]⟩
theorem write_rel (h : rW n B c m) (hB : B < 100000) (hn : n < 1000) (w t k : Int32) : rW n (B + 1) (f_N_write c w t k (c 0 4)) (f_M_add m w t k) := by
  obtain ⟨a, b, d, e, ha, ha', -, -, -, -, he, he'⟩ := id h.2.2.2.2.2.2.2.2.2
  have hmade : c 3 1 = nI e := h.1.2.2.2.1.trans he
  have hclk : c 0 4 = nI a := h.1.2.1.trans ha
  have hv : ((((4096 * f_J_floorMod (c 0 4) 65536) + (256 * k)) + (16 * t)) + w) = (((((irem (m 0 2) 65536) * 4096) + (256 * k)) + (16 * t)) + w) := by
    rw [hclk, ha, fmod_nI2 (by omega), Int32.mul_comm 4096]
  have hi : (f_J_floorMod (c 3 1) 40).toNatClampNeg = (irem (m 0 16) 40).toNatClampNeg := by
    rw [hmade, he, fmod_nI (by omega)]
  unfold f_N_write f_N_write_S38 f_M_add f_M_add_S36
  rw [hv, hi]
  generalize (((((irem (m 0 2) 65536) * 4096) + (256 * k)) + (16 * t)) + w) = V
  generalize (irem (m 0 16) 40).toNatClampNeg = I
  refine rW_notes h ?_ ?_ ?_ ?_ ?_ ?_
  · intro j h3 h4
    rw [wr_cell h3, wr_cell h4]
  · intro j h0 h12
    rw [wr_cell h0, wr_cell h12]
  · intro k hk
    exact (wr_ne (by omega)).trans (wr_ne (by omega))
  · rw [wr_eq, wr_eq, wr_ne (s := c) (c := 4) (by omega), wr_ne (s := m) (c := 12) (by omega), h.1.2.2.2.1]
  · intro i
    rw [wr_cell (c' := 4) (by decide), wr_cell (c' := 12) (by decide)]
    by_cases q : i = I
    · subst q
      rw [wr_eq, wr_eq]
    · rw [wr_ne (fun z => q z.2), wr_ne (fun z => q z.2)]
      exact h.1.2.2.2.2 i
  · refine ⟨e + 1, ?_, by omega⟩
    rw [wr_eq, wr_ne (s := m) (c := 12) (by omega), he, nI_1]
theorem tell_rel (h : rW n B c m) (hB : B < 90000) (hn : n < 1000) (w t k ran : Int32) (hr : c 0 6 = ran) : rW n (B + 2) (f_C_happened c w t k) (f_M_tell m w t k ran) ∧ f_C_happened c w t k 0 6 = f_M_runner (f_M_tell m w t k ran) := by
  have h1 := write_rel h (by omega) hn w t k
  have hr1 : f_N_write c w t k (c 0 4) 0 6 = ran := by rw [write_0]; exact hr
  unfold f_C_happened f_M_tell f_C_happened_S14 f_M_tell_S7
  generalize f_N_write c w t k (c 0 4) = c1 at *
  generalize f_M_add m w t k = m1 at *
  rw [runner_eq h1.2.2.2.1, hr1]
  by_cases q : f_M_runner m1 = ran
  · rw [if_pos q, if_pos q]
    exact ⟨rW_mono (by omega) h1, by rw [hr1, q]⟩
  · rw [if_neg q, if_neg q]
    have h2 : rW n (B + 1) (wr c1 0 6 (f_M_runner m1)) m1 := rW_runner h1 _
    have key : ∀ x, rW n (B + 2) (f_C_happened_B53 (wr c1 0 6 (f_M_runner m1)) 5 x) (f_M_tell_B35 m1 5 x) ∧ f_C_happened_B53 (wr c1 0 6 (f_M_runner m1)) 5 x 0 6 = f_M_runner (f_M_tell_B35 m1 5 x) := by
      intro x
      unfold f_C_happened_B53 f_M_tell_B35
      refine ⟨write_rel h2 (by omega) hn 5 x 15, ?_⟩
      rw [write_0, wr_eq, runner_congr (add_4 _ _ _ _).1 (add_4 _ _ _ _).2]
    unfold f_C_happened_S35
    by_cases q2 : f_M_runner m1 = (-1)
    · rw [if_pos q2, if_pos q2]
      exact key 8
    · rw [if_neg q2, if_neg q2]
      exact key _
end TELL
