section ACT3
variable {n : Nat} {c m : St}
theorem i32_ltle {x y z : Int32} (h1 : x < y) (h2 : y ≤ z) : x < z := by
  rw [i32_lt] at *
  rw [i32_le] at h2
  omega
theorem i32_le_of {x y : Int32} (h1 : x ≤ y) (h2 : ¬ x = y) : x < y := by
  rw [i32_lt]
  rw [i32_le] at h1
  have : x.toInt ≠ y.toInt := fun q => h2 (Int32.toInt_inj.mp q)
  omega
theorem runner_cases (m : St) : f_M_runner m = (-1) ∨ ∃ r, r < 8 ∧ f_M_runner m = nI r ∧ 0 < m 4 r := by
  have h : ∀ (n i : Nat) (v : Int32), i + n = 8 → (v = (-1) ∨ ∃ r, r < 8 ∧ v = nI r ∧ 0 < m 4 r) → (f_M_runner_L4 n i m v = (-1) ∨ ∃ r, r < 8 ∧ f_M_runner_L4 n i m v = nI r ∧ 0 < m 4 r) := by
    intro n
    induction n with
    | zero => intro i v _ hv; rw [f_M_runner_L4]; exact hv
    | succ n ih =>
      intro i v hi hv
      rw [f_M_runner_L4]
      by_cases h0 : m 4 i ≤ 0
      · rw [if_pos h0]; exact ih _ _ (by omega) hv
      · have hn : nI i = (-1) ∨ ∃ r, r < 8 ∧ nI i = nI r ∧ 0 < m 4 r := Or.inr ⟨i, by omega, rfl, i32_pos h0⟩
        rw [if_neg h0]
        split
        · exact ih _ _ (by omega) hn
        · split
          · exact ih _ _ (by omega) hv
          · exact ih _ _ (by omega) hn
  exact h 8 0 (-1) rfl (Or.inl rfl)
theorem latest_best (m : St) (r : Int32) : (f_M_latest m r = (-1) ∧ ∀ j, j < 6 → ¬ m 9 j = r) ∨ ∃ k, k < 6 ∧ f_M_latest m r = nI k ∧ m 9 k = r ∧ ∀ j, j < 6 → m 9 j = r → m 11 j ≤ m 11 k := by
  have h : ∀ (n i : Nat) (v : Int32), i + n = 6 → ((v = (-1) ∧ ∀ j, j < i → ¬ m 9 j = r) ∨ ∃ k, k < 6 ∧ v = nI k ∧ m 9 k = r ∧ ∀ j, j < i → m 9 j = r → m 11 j ≤ m 11 k) →
      ((f_M_latest_L4 n i m r v = (-1) ∧ ∀ j, j < 6 → ¬ m 9 j = r) ∨ ∃ k, k < 6 ∧ f_M_latest_L4 n i m r v = nI k ∧ m 9 k = r ∧ ∀ j, j < 6 → m 9 j = r → m 11 j ≤ m 11 k) := by
    intro n
    induction n with
    | zero =>
      intro i v hi hv
      have e : i = 6 := by omega
      subst e
      rw [f_M_latest_L4]
      exact hv
    | succ n ih =>
      intro i v hi hv
      rw [f_M_latest_L4]
      by_cases h0 : m 9 i = r
      · rw [if_pos h0]
        by_cases h1 : v = (-1)
        · rw [if_pos h1]
          refine ih _ _ (by omega) (Or.inr ⟨i, by omega, rfl, h0, fun j hj hr => ?_⟩)
          rcases hv with ⟨-, q⟩ | ⟨k, hk, e, -⟩
          · by_cases e : j = i
            · subst e; exact Int32.le_refl _
            · exact absurd hr (q j (by omega))
          · exact absurd (e.symm.trans h1) (nI_neg (by omega))
        · rw [if_neg h1]
          rcases hv with ⟨q, -⟩ | ⟨k, hk, e, hk9, q⟩
          · exact absurd q h1
          · subst e
            rw [nI_clamp (by omega)]
            by_cases h2 : m 11 i ≤ m 11 k
            · rw [if_pos h2]
              refine ih _ _ (by omega) (Or.inr ⟨k, hk, rfl, hk9, fun j hj hr => ?_⟩)
              by_cases e : j = i
              · subst e; exact h2
              · exact q j (by omega) hr
            · rw [if_neg h2]
              refine ih _ _ (by omega) (Or.inr ⟨i, by omega, rfl, h0, fun j hj hr => ?_⟩)
              by_cases e : j = i
              · subst e; exact Int32.le_refl _
              · have h3 := q j (by omega) hr
                rw [i32_le] at *
                omega
      · rw [if_neg h0]
        refine ih _ _ (by omega) ?_
        rcases hv with ⟨q1, q2⟩ | ⟨k, hk, e, hk9, q⟩
        · refine Or.inl ⟨q1, fun j hj => ?_⟩
          by_cases e : j = i
          · subst e; exact h0
          · exact q2 j (by omega)
        · refine Or.inr ⟨k, hk, e, hk9, fun j hj hr => ?_⟩
          by_cases e : j = i
          · subst e; exact absurd hr h0
          · exact q j (by omega) hr
  exact h 6 0 (-1) rfl (Or.inl ⟨rfl, fun j hj => by omega⟩)
/-- what is held has a number below the next one -/
theorem held_lt (hH : rH c m) {j t : Nat} (hj : j < 6) (ht : t < 8) (h : m 9 j = nI t) : m 11 j < m 0 15 + 1 := by
  rcases (hH j hj).2 with q | ⟨-, -, q, -⟩
  · exact absurd (h.symm.trans q) (nI_neg (by omega))
  · exact q
theorem last_eq (hH : rH c m) (hU : rU m) (hC : rC c m) {t : Nat} (ht : t < 8) : c (5 + 2 * t) 7 = f_M_latest m (nI t) := by
  rcases latest_best m (nI t) with ⟨e1, q1⟩ | ⟨k, hk, e1, k9, q1⟩
  · rw [e1]
    rcases hC t ht with ⟨e2, -⟩ | ⟨k2, hk2, e2, q2, -⟩
    · exact e2
    · exact absurd q2 (q1 k2 hk2)
  · rw [e1]
    rcases hC t ht with ⟨e2, q2⟩ | ⟨k2, hk2, e2, k9', -, q2⟩
    · exact absurd (held_lt hH hk ht k9) (q2 k hk k9)
    · have h1 := q1 k2 hk2 k9'
      have h2 := q2 k hk k9 (held_lt hH hk ht k9)
      rw [e2, hU k2 k hk2 hk (by rw [k9']; exact nI_neg (by omega)) (by rw [k9]; exact nI_neg (by omega)) (i32_anti h1 h2)]
theorem add_00 (m : St) (w t k : Int32) : f_M_add m w t k 0 0 = m 0 0 := by
  unfold f_M_add f_M_add_S36
  exact (wr_ne (by decide)).trans (wr_ne (by omega))
theorem tell_00 (m : St) (w t k r : Int32) : f_M_tell m w t k r 0 0 = m 0 0 := by
  unfold f_M_tell f_M_tell_S7 f_M_tell_B35
  split
  · exact add_00 _ _ _ _
  · split
    · rw [add_00, add_00]
    · rw [add_00, add_00]
/-- a release, as both write it -/
def rlC (c : St) (t : Nat) : St := wr (wr (wr (wr (wr (wr c 0 5 (c 0 5 + 1)) (5 + 2 * t) 4 1) (5 + 2 * t) 5 (c (5 + 2 * t) 0)) (5 + 2 * t) 6 (c 0 5 + 1)) (5 + 2 * t) 8 0) (5 + 2 * t) 9 0
def rlM (m : St) (t : Nat) : St := wr (wr (wr (wr (wr (wr m 0 0 0) 0 3 (m 0 3 + 1)) 4 t (m 0 3 + 1)) 5 t (m 1 t)) 6 t 0) 7 t 0
theorem rlC_eq (c : St) (t : Nat) : f_T_makeReady (wr c 0 5 (c 0 5 + 1)) t (wr c 0 5 (c 0 5 + 1) 0 5) = rlC c t := by
  unfold f_T_makeReady f_T_makeReady_S5 f_T_makeReady_S13 f_T_makeReady_S18 f_T_makeReady_S23 rlC
  rw [wr_eq, wr_ne (s := wr c 0 5 (c 0 5 + 1)) (by omega), wr_ne (s := c) (c' := 5 + 2 * t) (by omega)]
theorem rW_release (h : rR n c m) (hn : n < 900) {t : Nat} (ht : t < 8) (hs : m 0 1 = 1) (hd : 0 < m 1 t) : rW (n + 1) (2 * n) (rlC c t) (rlM m t) ∧ rlC c t 0 6 = f_M_runner m := by
  obtain ⟨⟨hS, hT, hL, hQ, hD, hH, hU, hC, hE, hN⟩, hr⟩ := h
  obtain ⟨a, b, d, e, q1, q2, q3, q4, q5, q6, q7, q8⟩ := hN
  have m0 : ∀ k, k ≠ 0 → k ≠ 3 → rlM m t 0 k = m 0 k := by intro k h1 h2; simp [rlM, wr, h1, h2]
  have m03 : rlM m t 0 3 = m 0 3 + 1 := by simp [rlM, wr]
  have mr : ∀ j, j ≠ 0 → j ≠ 4 → j ≠ 5 → j ≠ 6 → j ≠ 7 → rlM m t j = m j := by intro j h0 h4 h5 h6 h7; funext k; simp [rlM, wr, h0, h4, h5, h6, h7]
  have mo : ∀ i, i ≠ t → rlM m t 4 i = m 4 i ∧ rlM m t 5 i = m 5 i ∧ rlM m t 6 i = m 6 i ∧ rlM m t 7 i = m 7 i := by intro i hi; simp [rlM, wr, hi]
  have mt : rlM m t 4 t = m 0 3 + 1 ∧ rlM m t 5 t = m 1 t ∧ rlM m t 6 t = 0 ∧ rlM m t 7 t = 0 := by simp [rlM, wr]
  have cr : ∀ j k, (j ≠ 0 ∨ k ≠ 5) → j ≠ 5 + 2 * t → rlC c t j k = c j k := by
    intro j k h1 h2
    have e : ¬ (j = 0 ∧ k = 5) := by omega
    simp [rlC, wr, h2, e]
  have c05 : rlC c t 0 5 = c 0 5 + 1 := by
    have e : ¬ 0 = 5 + 2 * t := by omega
    simp [rlC, wr, e]
  have cb : ∀ k, k ≠ 4 → k ≠ 5 → k ≠ 6 → k ≠ 8 → k ≠ 9 → rlC c t (5 + 2 * t) k = c (5 + 2 * t) k := by
    intro k h4 h5 h6 h8 h9
    simp [rlC, wr, h4, h5, h6, h8, h9]
  have ct : rlC c t (5 + 2 * t) 4 = 1 ∧ rlC c t (5 + 2 * t) 5 = c (5 + 2 * t) 0 ∧ rlC c t (5 + 2 * t) 6 = c 0 5 + 1 ∧ rlC c t (5 + 2 * t) 8 = 0 ∧ rlC c t (5 + 2 * t) 9 = 0 := by simp [rlC, wr]
  have e1 := mr 1 (by decide) (by decide) (by decide) (by decide) (by decide)
  have e2 := mr 2 (by decide) (by decide) (by decide) (by decide) (by decide)
  have e3 := mr 3 (by decide) (by decide) (by decide) (by decide) (by decide)
  have e8 := mr 8 (by decide) (by decide) (by decide) (by decide) (by decide)
  have e9 := mr 9 (by decide) (by decide) (by decide) (by decide) (by decide)
  have e10 := mr 10 (by decide) (by decide) (by decide) (by decide) (by decide)
  have e11 := mr 11 (by decide) (by decide) (by decide) (by decide) (by decide)
  have e12 := mr 12 (by decide) (by decide) (by decide) (by decide) (by decide)
  have hlast : ∀ r b y, isLast (rlM m t) r b y = isLast m r b y := by
    intro r b y
    unfold isLast
    rw [e9, e11]
  have hnew : (0 : Int32) < m 0 3 + 1 := by
    rw [q3, nI_1]
    exact nI_lt (a := 0) (by omega) (by omega)
  refine ⟨⟨?_, ?_, ?_, ?_, ?_, ?_, ?_, ?_, ?_, ?_⟩, ?_⟩
  · obtain ⟨a1, a2, a3, a4, a5⟩ := hS
    refine ⟨?_, ?_, ?_, ?_, fun i => ?_⟩
    · rw [cr _ _ (by omega) (by omega), m0 _ (by decide) (by decide), a1]
    · rw [cr _ _ (by omega) (by omega), m0 _ (by decide) (by decide), a2]
    · rw [c05, m03, a3]
    · rw [cr _ _ (by omega) (by omega), m0 _ (by decide) (by decide), a4]
    · rw [cr _ _ (by omega) (by omega), e12, a5]
  · intro i hi
    rw [e1, e2, e3]
    by_cases q : i = t
    · subst q
      rw [cb 0 (by decide) (by decide) (by decide) (by decide) (by decide), cb 1 (by decide) (by decide) (by decide) (by decide) (by decide), cb 2 (by decide) (by decide) (by decide) (by decide) (by decide), ct.2.2.2.1, ct.2.2.2.2, mt.2.2.1, mt.2.2.2]
      exact ⟨(hT i hi).1, (hT i hi).2.1, (hT i hi).2.2.1, rfl, rfl⟩
    · rw [cr _ 0 (by omega) (by omega), cr _ 1 (by omega) (by omega), cr _ 2 (by omega) (by omega), cr _ 8 (by omega) (by omega), cr _ 9 (by omega) (by omega), (mo i q).2.2.1, (mo i q).2.2.2]
      exact hT i hi
  · intro i k hi hk
    rw [cr _ _ (by omega) (by omega), e8]
    exact hL i k hi hk
  · intro i hi
    rw [e1]
    by_cases q : i = t
    · subst q
      refine Or.inr ⟨ct.1, by rw [mt.1]; exact hnew, hd, by rw [ct.2.2.1, mt.1, hS.2.2.1], by rw [ct.2.1, mt.2.1]; exact (hT i hi).1⟩
    · rw [cr _ 4 (by omega) (by omega), cr _ 6 (by omega) (by omega), cr _ 5 (by omega) (by omega), (mo i q).1, (mo i q).2.1]
      exact hQ i hi
  · intro i hi
    rw [e1, e3, e8]
    exact hD i hi
  · intro k hk
    rw [cr _ _ (by omega) (by omega), cr _ _ (by omega) (by omega), cr _ _ (by omega) (by omega), e9, e10, e11, m0 15 (by decide) (by decide), hlast]
    refine ⟨(hH k hk).1, ?_⟩
    rcases (hH k hk).2 with z | ⟨z1, z2, z3, ⟨i, hi, z4, z5⟩, z6⟩
    · exact Or.inl z
    · refine Or.inr ⟨z1, z2, z3, ⟨i, hi, z4, ?_⟩, z6⟩
      by_cases q : i = t
      · subst q; rw [mt.1]; exact hnew
      · rw [(mo i q).1]; exact z5
  · unfold rU
    rw [e9, e11]
    exact hU
  · intro i hi
    rw [hlast, m0 15 (by decide) (by decide)]
    by_cases q : i = t
    · subst q
      rw [cb 7 (by decide) (by decide) (by decide) (by decide) (by decide)]
      exact hC i hi
    · rw [cr _ _ (by omega) (by omega)]
      exact hC i hi
  · rcases hE with ⟨z, -⟩ | ⟨z1, z2⟩
    · rw [hs] at z; exact absurd z (by decide)
    · exact Or.inr ⟨by rw [m0 1 (by decide) (by decide)]; exact z1, fun k hk => by rw [cr _ _ (by omega) (by omega), top_congr e1 e8]; exact z2 k hk⟩
  · exact ⟨a, b + 1, d, e, by rw [m0 2 (by decide) (by decide)]; exact q1, by omega, by rw [m03, q3, nI_1], by omega, by rw [m0 15 (by decide) (by decide)]; exact q5, by omega, by rw [m0 16 (by decide) (by decide)]; exact q7, q8⟩
  · rw [cr _ _ (by omega) (by omega)]
    exact hr
theorem op_release (h : rR n c m) (hn : n < 900) (x : Int32) : (f_M_release m x).2 0 0 = nI (f_C_release c x).1 ∧ ((f_C_release c x).1 = 0 → (f_C_release c x).2.1 = (f_M_release m x).1) ∧ rR (n + 1) (f_C_release c x).2.2 (f_M_release m x).2 := by
  have hdc := decl_eq h.1.2.1 h.1.2.2.2.2.1 x
  have hrc := ready_eq h.1.2.2.2.1 x
  have hse := h.1.1.1
  have key : f_M_release_B16 m x = (0, wr m 0 0 1) := by
    rw [f_M_release_B16, f_M_release_B21]
    split
    · rw [f_M_release_B34, ref_1 i1ne, f_M_release_S37, if_neg i1ne]
    · rw [f_M_release_B34, ref_1 i1ne, f_M_release_S37, if_neg i1ne]
  have no1 : wr m 0 0 1 0 0 = nI 1 ∧ ((1 : Nat) = 0 → (0 : Int32) = 0) ∧ rR (n + 1) c (wr m 0 0 1) := ⟨wr_eq _ _ _ _, fun _ => rfl, rR_succ (rR_thrown h 1)⟩
  rw [f_C_release, f_M_release, hse, hrc, hdc]
  by_cases q : m 0 1 = 0
  · rw [if_pos q, if_pos q, key]
    exact no1
  rw [if_neg q, if_neg q]
  by_cases q1 : f_M_isReady m x = 0
  · rw [if_pos q1, if_pos q1, f_M_release_B21]
    by_cases q2 : f_M_isDeclared m x = 0
    · rw [if_pos q2, if_pos q2, f_M_release_B34, ref_2 i1ne, f_M_release_S37, if_neg i1ne]
      exact ⟨(show wr m 0 0 2 0 0 = nI 2 from wr_eq _ _ _ _), fun z => absurd (show (2 : Nat) = 0 from z) (by decide), rR_succ (rR_thrown h 2)⟩
    · rw [if_neg q2, if_neg q2, f_M_release_B34, ref_ok, f_M_release_S37, if_pos rfl]
      obtain ⟨t, ht, rfl⟩ := vp_in_of (vi_mdecl q2) (by decide)
      have hs : m 0 1 = 1 := by
        rcases h.1.2.2.2.2.2.2.2.2.1 with ⟨z, -⟩ | ⟨z, -⟩
        · exact absurd z q
        · exact z
      obtain ⟨w1, w2⟩ := rW_release h hn ht hs (decl_pos ht q2)
      have eM : wr (wr (wr (wr (wr (wr m 0 0 0) 0 3 (wr m 0 0 0 0 3 + 1)) 4 t (wr (wr m 0 0 0) 0 3 (wr m 0 0 0 0 3 + 1) 0 3)) 5 t (wr (wr (wr m 0 0 0) 0 3 (wr m 0 0 0 0 3 + 1)) 4 t (wr (wr m 0 0 0) 0 3 (wr m 0 0 0 0 3 + 1) 0 3) 1 t)) 6 t 0) 7 t 0 = rlM m t := by
        unfold rlM
        rw [wr_eq, wr_ne (s := m) (c' := 0) (k' := 3) (by decide), wr_ne (s := wr (wr m 0 0 0) 0 3 (m 0 3 + 1)) (by omega), wr_ne (s := wr m 0 0 0) (by omega), wr_ne (s := m) (c' := 1) (by omega)]
      have hran : f_M_runner (wr m 0 0 0) = f_M_runner m := runner_congr (wr_cell (by decide)) (wr_cell (by decide))
      rw [f_M_release_S57, f_M_release_S67, f_M_release_S79, f_M_release_S86, f_M_release_S93, f_M_release_S102, nI_clamp (by omega), eM, hran, f_C_release_S53, f_C_release_S66, f_C_release_S74, nI_clamp (by omega), rlC_eq]
      obtain ⟨v1, v2⟩ := tell_rel w1 (by omega) (by omega) 1 (nI t) 15 _ w2
      refine ⟨?_, fun _ => v1.1.2.2.1, ⟨v1, v2⟩⟩
      show f_M_tell _ _ _ _ _ 0 0 = nI 0
      rw [tell_00]
      show rlM m t 0 0 = nI 0
      simp [rlM, wr]
      rfl
  · rw [if_neg q1, if_neg q1, key]
    exact no1
end ACT3
