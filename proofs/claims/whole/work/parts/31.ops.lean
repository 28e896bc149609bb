-- calls that only ask: the same answer, and the relation stays
section CONGR
variable {c m m' : St}
theorem top_congr (h1 : m' 1 = m 1) (h8 : m' 8 = m 8) (x : Int32) : f_M_top m' x = f_M_top m x := by
  have h : ∀ (n i : Nat) (v : Int32), f_M_top_L4 n i m' x v = f_M_top_L4 n i m x v := by
    intro n
    induction n with
    | zero => intro i v; rw [f_M_top_L4, f_M_top_L4]
    | succ n ih => intro i v; rw [f_M_top_L4, f_M_top_L4, h1, h8, ih, ih]
  exact h 8 0 0
theorem isFirst_congr (h4 : m' 4 = m 4) (h5 : m' 5 = m 5) (x y : Int32) : f_M_isFirst m' x y = f_M_isFirst m x y := by
  unfold f_M_isFirst
  rw [h4, h5]
theorem runner_congr (h4 : m' 4 = m 4) (h5 : m' 5 = m 5) : f_M_runner m' = f_M_runner m := by
  have h : ∀ (n i : Nat) (v : Int32), f_M_runner_L4 n i m' v = f_M_runner_L4 n i m v := by
    intro n
    induction n with
    | zero => intro i v; rw [f_M_runner_L4, f_M_runner_L4]
    | succ n ih => intro i v; rw [f_M_runner_L4, f_M_runner_L4, h4, isFirst_congr h4 h5, ih, ih]
  exact h 8 0 (-1)
/-- the same but for 'thrown' -/
def agree (m' m : St) : Prop := (∀ j, j ≠ 0 → m' j = m j) ∧ m' 0 1 = m 0 1 ∧ m' 0 2 = m 0 2 ∧ m' 0 3 = m 0 3 ∧ m' 0 15 = m 0 15 ∧ m' 0 16 = m 0 16
theorem agree_wr (m : St) (v : Int32) : agree (wr m 0 0 v) m := ⟨fun j h => wr_cell h, wr_ne (by decide), wr_ne (by decide), wr_ne (by decide), wr_ne (by decide), wr_ne (by decide)⟩
theorem rW_agree {n B : Nat} (h : agree m' m) (hw : rW n B c m) : rW n B c m' := by
  obtain ⟨hj, a1, a2, a3, a15, a16⟩ := h
  have e1 := hj 1 (by decide)
  have e2 := hj 2 (by decide)
  have e3 := hj 3 (by decide)
  have e4 := hj 4 (by decide)
  have e5 := hj 5 (by decide)
  have e6 := hj 6 (by decide)
  have e7 := hj 7 (by decide)
  have e8 := hj 8 (by decide)
  have e9 := hj 9 (by decide)
  have e10 := hj 10 (by decide)
  have e11 := hj 11 (by decide)
  have e12 := hj 12 (by decide)
  unfold rW rS rT rL rQ rD rH rU rC rE rN isLast at *
  simp only [e1, e2, e3, e4, e5, e6, e7, e8, e9, e10, e11, e12, a1, a2, a3, a15, a16, top_congr e1 e8]
  exact hw
theorem rR_agree {n : Nat} (h : agree m' m) (hw : rR n c m) : rR n c m' := ⟨rW_agree h hw.1, by rw [runner_congr (h.1 4 (by decide)) (h.1 5 (by decide))]; exact hw.2⟩
theorem rR_thrown {n : Nat} (hw : rR n c m) (v : Int32) : rR n c (wr m 0 0 v) := rR_agree (agree_wr m v) hw
theorem rN_succ {n B B' : Nat} (hB : B ≤ B') (h : rN n B m) : rN (n + 1) B' m := by
  obtain ⟨a, b, d, e, h1, h2, h3, h4, h5, h6, h7, h8⟩ := h
  exact ⟨a, b, d, e, h1, by omega, h3, by omega, h5, by omega, h7, by omega⟩
theorem rW_succ {n B B' : Nat} (hB : B ≤ B') (h : rW n B c m) : rW (n + 1) B' c m := by
  obtain ⟨h1, h2, h3, h4, h5, h6, h7, h8, h9, h10⟩ := h
  exact ⟨h1, h2, h3, h4, h5, h6, h7, h8, h9, rN_succ hB h10⟩
theorem rR_succ {n : Nat} (h : rR n c m) : rR (n + 1) c m := ⟨rW_succ (by omega) h.1, h.2⟩
end CONGR
section ASK
variable {n : Nat} {c m : St}
theorem op_running (h : rR n c m) : f_C_running c = (f_M_running m).1 ∧ rR n c (f_M_running m).2 := by
  have h' := rR_thrown h 0
  exact ⟨h'.2, h'⟩
theorem op_notes (h : rR n c m) : f_C_notes c = (f_M_notes m).1 ∧ rR n c (f_M_notes m).2 := by
  have h' := rR_thrown h 0
  exact ⟨h'.1.1.2.2.2.1, h'⟩
theorem op_priority (h : rR n c m) (x : Int32) : f_C_priority c x = (f_M_priority m x).1 ∧ rR n c (f_M_priority m x).2 := by
  have h' := rR_thrown h 0
  unfold f_M_priority f_M_priority_S5 f_C_priority
  generalize wr m 0 0 0 = m' at h' ⊢
  obtain ⟨hS, hT, hL, hQ, hD, hH, hU, hC, hE, hN⟩ := h'.1
  rw [decl_eq hT hD]
  by_cases h0 : f_M_isDeclared m' x = 0
  · rw [if_pos h0, if_pos h0]; exact ⟨rfl, h'⟩
  · rw [if_neg h0, if_neg h0]
    refine ⟨?_, h'⟩
    obtain ⟨t, ht, rfl⟩ := vp_in_of (vi_mdecl h0) (by decide)
    rw [nI_clamp (by omega)]
    show _ = m' 5 t
    rcases hQ t ht with ⟨h1, h2, h3⟩ | ⟨h1, h2, h3, h4, h5⟩
    · rw [if_pos h1, (hT t ht).1, h3]
    · rw [if_neg (by rw [h1]; decide), h5]
theorem op_place (h : rR n c m) (x : Int32) : f_C_place c x = (f_M_place m x).1 ∧ rR n c (f_M_place m x).2 := by
  have h' := rR_thrown h 0
  unfold f_M_place f_M_place_S5 f_C_place
  generalize wr m 0 0 0 = m' at h' ⊢
  obtain ⟨hS, hT, hL, hQ, hD, hH, hU, hC, hE, hN⟩ := h'.1
  have hr := ready_eq hQ x
  rw [hr]
  by_cases h0 : f_M_isReady m' x = 0
  · rw [if_pos h0, if_pos h0]; exact ⟨rfl, h'⟩
  · rw [if_neg h0, if_neg h0]
    obtain ⟨t, ht, rfl⟩ := vp_in_of (vi_mready h0) (by decide)
    have hc : ¬ c (5 + 2 * t) 4 = 0 := fun q => h0 (by rw [← hr, f_C_isReady, nI_clamp (by omega), q]; split <;> rfl)
    rw [placeL_eq hQ ht hc 8 0 0 rfl]
    exact ⟨rfl, h'⟩
theorem op_ceiling (h : rR n c m) (x : Int32) : f_C_ceiling c x = (f_M_ceiling m x).1 ∧ rR n c (f_M_ceiling m x).2 := by
  have h' := rR_thrown h 0
  unfold f_M_ceiling f_M_ceiling_S5 f_C_ceiling
  generalize wr m 0 0 0 = m' at h' ⊢
  obtain ⟨hS, hT, hL, hQ, hD, hH, hU, hC, hE, hN⟩ := h'.1
  rw [hS.1, isThing_eq]
  by_cases h0 : m' 0 1 = 0
  · rw [if_pos h0, if_pos h0]; exact ⟨rfl, h'⟩
  · rw [if_neg h0, if_neg h0]
    by_cases h1 : f_M_isThing x = 0
    · rw [if_pos h1, if_pos h1]; exact ⟨rfl, h'⟩
    · rw [if_neg h1, if_neg h1]
      refine ⟨?_, h'⟩
      obtain ⟨k, hk, rfl⟩ := vp_in_of (vi_mThing h1) (by decide)
      rw [nI_clamp (by omega)]
      rcases hE with ⟨h2, -⟩ | ⟨-, h2⟩
      · exact absurd h2 h0
      · exact h2 k hk
theorem op_holder (h : rR n c m) (x : Int32) : f_C_holder c x = (f_M_holder m x).1 ∧ rR n c (f_M_holder m x).2 := by
  have h' := rR_thrown h 0
  unfold f_M_holder f_M_holder_S5 f_C_holder
  generalize wr m 0 0 0 = m' at h' ⊢
  obtain ⟨hS, hT, hL, hQ, hD, hH, hU, hC, hE, hN⟩ := h'.1
  rw [isThing_eq]
  by_cases h1 : f_M_isThing x = 0
  · rw [if_pos h1, if_pos h1]; exact ⟨rfl, h'⟩
  · rw [if_neg h1, if_neg h1]
    refine ⟨?_, h'⟩
    obtain ⟨k, hk, rfl⟩ := vp_in_of (vi_mThing h1) (by decide)
    rw [nI_clamp (by omega)]
    exact (hH k hk).1
theorem op_spent (h : rR n c m) (x w : Int32) : f_C_spent c x w = (f_M_spent m x w).1 ∧ rR n c (f_M_spent m x w).2 := by
  have h' := rR_thrown h 0
  unfold f_M_spent f_M_spent_S5 f_C_spent
  generalize wr m 0 0 0 = m' at h' ⊢
  obtain ⟨hS, hT, hL, hQ, hD, hH, hU, hC, hE, hN⟩ := h'.1
  rw [decl_eq hT hD]
  by_cases h0 : f_M_isDeclared m' x = 0
  · rw [if_pos h0, if_pos h0]; exact ⟨rfl, h'⟩
  · rw [if_neg h0, if_neg h0]
    obtain ⟨t, ht, rfl⟩ := vp_in_of (vi_mdecl h0) (by decide)
    rw [nI_clamp (by omega), (hT t ht).2.2.2.1, (hT t ht).2.2.2.2]
    by_cases h1 : w = 0
    · rw [if_pos h1, if_pos h1]; exact ⟨rfl, h'⟩
    · rw [if_neg h1, if_neg h1]
      by_cases h2 : w = 1
      · rw [if_pos h2, if_pos h2]; exact ⟨rfl, h'⟩
      · rw [if_neg h2, if_neg h2]; exact ⟨rfl, h'⟩
theorem decl_pos {m : St} {t : Nat} (ht : t < 8) (h : ¬ f_M_isDeclared m (nI t) = 0) : 0 < m 1 t := by
  refine i32_pos fun q => h ?_
  rw [f_M_isDeclared, nI_clamp (by omega), if_pos q]
  split <;> rfl
theorem op_blocking (h : rR n c m) (x : Int32) : f_C_blocking c x = (f_M_blocking m x).1 ∧ rR n c (f_M_blocking m x).2 := by
  have h' := rR_thrown h 0
  unfold f_M_blocking f_M_blocking_S5 f_C_blocking
  generalize wr m 0 0 0 = m' at h' ⊢
  obtain ⟨hS, hT, hL, hQ, hD, hH, hU, hC, hE, hN⟩ := h'.1
  rw [hS.1, decl_eq hT hD]
  by_cases h0 : m' 0 1 = 0
  · rw [if_pos h0, if_pos h0]; exact ⟨rfl, h'⟩
  · rw [if_neg h0, if_neg h0]
    by_cases h1 : f_M_isDeclared m' x = 0
    · rw [if_pos h1, if_pos h1]; exact ⟨rfl, h'⟩
    · rw [if_neg h1, if_neg h1]
      refine ⟨?_, h'⟩
      obtain ⟨t, ht, rfl⟩ := vp_in_of (vi_mdecl h1) (by decide)
      rcases hE with ⟨h2, -⟩ | ⟨-, h2⟩
      · exact absurd h2 h0
      · rw [nI_clamp (by omega), (hT t ht).1]
        exact (long_eq hL hT hD h2 ht).symm
theorem op_response (h : rR n c m) (x : Int32) : f_C_response c x = (f_M_response m x).1 ∧ rR n c (f_M_response m x).2 := by
  have h' := rR_thrown h 0
  unfold f_M_response f_M_response_S5 f_C_response
  generalize wr m 0 0 0 = m' at h' ⊢
  obtain ⟨hS, hT, hL, hQ, hD, hH, hU, hC, hE, hN⟩ := h'.1
  rw [hS.1, decl_eq hT hD]
  by_cases h0 : m' 0 1 = 0
  · rw [if_pos h0, if_pos h0]; exact ⟨rfl, h'⟩
  · rw [if_neg h0, if_neg h0]
    by_cases h1 : f_M_isDeclared m' x = 0
    · rw [if_pos h1, if_pos h1]; exact ⟨rfl, h'⟩
    · rw [if_neg h1, if_neg h1]
      obtain ⟨t, ht, rfl⟩ := vp_in_of (vi_mdecl h1) (by decide)
      rcases hE with ⟨h2, -⟩ | ⟨-, h2⟩
      · exact absurd h2 h0
      · rw [nI_clamp (by omega), (hT t ht).1, (hT t ht).2.1, (hT t ht).2.2.1, respL_eq hL hT hD h2 ht (decl_pos ht h1)]
        exact ⟨rfl, h'⟩
/-- Math.floorMod and % are the same where nothing is negative -/
theorem fmod_nI {a : Nat} (h : a < 2 ^ 31) : f_J_floorMod (nI a) 40 = irem (nI a) 40 := by
  rw [fm_40]
  show fmOf (irem (nI a) 40) 40 = _
  rw [show (40 : Int32) = nI 40 from rfl, irem_nI h (by decide) (by decide)]
  exact if_pos (nI_pos' (by omega))
theorem fmod_nI2 {a : Nat} (h : a < 2 ^ 31) : f_J_floorMod (nI a) 65536 = irem (nI a) 65536 := by
  rw [fm_65536]
  show fmOf (irem (nI a) 65536) 65536 = _
  rw [show (65536 : Int32) = nI 65536 from rfl, irem_nI h (by decide) (by decide)]
  exact if_pos (nI_pos' (by omega))
theorem op_note (h : rR n c m) (x : Int32) : f_C_note c x = (f_M_note m x).1 ∧ rR n c (f_M_note m x).2 := by
  have h' := rR_thrown h 0
  unfold f_M_note f_M_note_S5 f_C_note f_N_fromLatest
  generalize wr m 0 0 0 = m' at h' ⊢
  obtain ⟨hS, hT, hL, hQ, hD, hH, hU, hC, hE, hN⟩ := h'.1
  obtain ⟨-, -, -, h4, h5⟩ := hS
  rw [h4, h5]
  by_cases h0 : x < 0
  · rw [if_pos h0, if_pos h0]; exact ⟨rfl, h'⟩
  · rw [if_neg h0, if_neg h0]
    by_cases h1 : 40 ≤ x
    · rw [if_pos h1, if_pos h1]; exact ⟨rfl, h'⟩
    · rw [if_neg h1, if_neg h1]
      by_cases h2 : x < m' 0 16
      · rw [if_pos h2, if_pos h2]
        refine ⟨?_, h'⟩
        have hm : ¬ m' 0 16 < 0 := by
          intro h3
          refine h0 ?_
          rw [i32_lt] at *
          omega
        obtain ⟨a, ha, rfl⟩ := nI_of h0
        obtain ⟨b, hb, e⟩ := nI_of hm
        rw [e] at h2 ⊢
        have hab : a < b := (nI_ltI ha hb).mp h2
        rw [show (1 : Int32) = nI 1 from rfl, pk_sub (by omega), pk_sub (by omega), fmod_nI (by omega)]
      · rw [if_neg h2, if_neg h2]; exact ⟨rfl, h'⟩
end ASK
