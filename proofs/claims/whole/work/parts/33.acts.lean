section ACT2
variable {n : Nat} {c m : St}
theorem rR_mayUse (h : rR n c m) {t k : Nat} (ht : t < 8) (hk : k < 6) {x : Int32} (hs : m 0 1 = 0) (hd : 0 < m 1 t) (hx : ¬ x < 1) : rR n (wr c (5 + 2 * t + 1) k x) (wr (wr m 0 0 0) 8 (6 * t + k) x) := by
  obtain ⟨⟨hS, hT, hL, hQ, hD, hH, hU, hC, hE, hN⟩, hr⟩ := rR_thrown h 0
  have hs' : wr m 0 0 0 0 1 = 0 := by rw [wr_ne (by decide)]; exact hs
  have hd' : 0 < wr m 0 0 0 1 t := by rw [wr_ne (by omega)]; exact hd
  generalize wr m 0 0 0 = m at *
  have hz : ∀ t, t < 8 → m 4 t = 0 := by
    rcases hE with ⟨-, h0⟩ | ⟨h0, -⟩
    · exact h0
    · rw [hs'] at h0; exact absurd h0 (by decide)
  have hx0 : 0 ≤ x := by
    rw [i32_nlt, i32_le, show (1 : Int32).toInt = 1 from rfl] at hx
    rw [i32_le, show (0 : Int32).toInt = 0 from rfl]; omega
  have mj : ∀ j, j ≠ 8 → wr m 8 (6 * t + k) x j = m j := fun j hj => wr_cell hj
  have cj : ∀ j, j ≠ 5 + 2 * t + 1 → wr c (5 + 2 * t + 1) k x j = c j := fun j hj => wr_cell hj
  have hlast : ∀ r b y, isLast (wr m 8 (6 * t + k) x) r b y = isLast m r b y := by
    intro r b y
    unfold isLast
    rw [mj 9 (by decide), mj 11 (by decide)]
  refine ⟨⟨?_, ?_, ?_, ?_, ?_, ?_, ?_, ?_, ?_, ?_⟩, ?_⟩
  · unfold rS
    rw [cj 0 (by omega), cj 3 (by omega), cj 4 (by omega), mj 0 (by decide), mj 12 (by decide)]
    exact hS
  · intro i hi
    rw [cj _ (by omega), mj 1 (by decide), mj 2 (by decide), mj 3 (by decide), mj 6 (by decide), mj 7 (by decide)]
    exact hT i hi
  · intro i j hi hj
    by_cases e : i = t ∧ j = k
    · obtain ⟨rfl, rfl⟩ := e
      rw [wr_eq, wr_eq]
    · rw [wr_ne (by omega), wr_ne (by omega)]
      exact hL i j hi hj
  · intro i hi
    rw [cj _ (by omega), mj 4 (by decide), mj 5 (by decide), mj 1 (by decide)]
    exact hQ i hi
  · intro i hi
    rw [mj 1 (by decide), mj 3 (by decide)]
    by_cases e : i = t
    · subst e
      rcases hD i hi with ⟨q, -⟩ | ⟨q1, q2, q3, q4⟩
      · rw [q] at hd'; exact absurd hd' (by decide)
      · refine Or.inr ⟨q1, q2, q3, fun j hj => ?_⟩
        by_cases e : j = k
        · subst e; rw [wr_eq]; exact hx0
        · rw [wr_ne (by omega)]; exact q4 j hj
    · have e2 : ∀ j, j < 6 → wr m 8 (6 * t + k) x 8 (6 * i + j) = m 8 (6 * i + j) := fun j hj => wr_ne (by omega)
      rcases hD i hi with ⟨q1, q2, q3⟩ | ⟨q1, q2, q3, q4⟩
      · exact Or.inl ⟨q1, q2, fun j hj => by rw [e2 j hj]; exact q3 j hj⟩
      · exact Or.inr ⟨q1, q2, q3, fun j hj => by rw [e2 j hj]; exact q4 j hj⟩
  · intro j hj
    rw [cj _ (by omega), mj 9 (by decide), mj 10 (by decide), mj 11 (by decide), mj 4 (by decide), mj 0 (by decide), hlast]
    exact hH j hj
  · unfold rU
    rw [mj 9 (by decide), mj 11 (by decide)]
    exact hU
  · intro i hi
    rw [hlast, mj 0 (by decide), cj _ (by omega)]
    exact hC i hi
  · exact Or.inl ⟨by rw [mj 0 (by decide)]; exact hs', fun i hi => by rw [mj 4 (by decide)]; exact hz i hi⟩
  · unfold rN
    rw [mj 0 (by decide)]
    exact hN
  · rw [cj 0 (by omega), runner_congr (mj 4 (by decide)) (mj 5 (by decide))]
    exact hr
theorem op_mayUse (h : rR n c m) (p1 p2 p3 : Int32) : f_M_mayUse m p1 p2 p3 0 0 = nI (f_C_mayUse c p1 p2 p3).1 ∧ rR n (f_C_mayUse c p1 p2 p3).2.2 (f_M_mayUse m p1 p2 p3) := by
  have hdc := decl_eq h.1.2.1 h.1.2.2.2.2.1 p1
  have hse := h.1.1.1
  have key : ∀ b, ¬ m 0 1 = 0 → f_M_mayUse_B36 m (m 0 1) b p1 p2 p3 = wr m 0 0 1 := by
    intro b q
    rw [f_M_mayUse_B36, ref_1 q, f_M_mayUse_S39, if_neg i1ne]
  have key2 : m 0 1 = 0 → f_M_mayUse_B31 m (m 0 1) p1 p2 p3 = wr m 0 0 2 := by
    intro q
    rw [f_M_mayUse_B31, f_M_mayUse_B36, q, ref_2 i1ne, f_M_mayUse_S39, if_neg i1ne]
  rw [f_M_mayUse, f_C_mayUse, hse, hdc, isThing_eq]
  by_cases q : m 0 1 = 0
  · rw [if_pos q]
    by_cases q1 : f_M_isDeclared m p1 = 0
    · rw [if_pos q1, if_pos q1, key2 q]
      exact ⟨wr_eq _ _ _ _, rR_thrown h 2⟩
    rw [if_neg q1, if_neg q1]
    by_cases q2 : f_M_isThing p2 = 0
    · rw [if_pos q2, if_pos q2, key2 q]
      exact ⟨wr_eq _ _ _ _, rR_thrown h 2⟩
    rw [if_neg q2, if_neg q2]
    by_cases q3 : p3 < 1
    · rw [if_pos q3, if_pos (isIn_no (Or.inl q3)), key2 q]
      exact ⟨wr_eq _ _ _ _, rR_thrown h 2⟩
    rw [if_neg q3]
    by_cases q4 : p3 ≤ 50
    · rw [if_pos q4, if_neg (isIn_ok q3 (i32_nlt.mpr q4)), f_M_mayUse_B36, q, ref_ok, f_M_mayUse_S39, if_pos rfl]
      obtain ⟨t, ht, rfl⟩ := vp_in_of (vi_mdecl q1) (by decide)
      obtain ⟨k, hk, rfl⟩ := vp_in_of (vi_mThing q2) (by decide)
      rw [six_clamp ht hk, nI_clamp (n := t) (by omega), nI_clamp (n := k) (by omega)]
      exact ⟨by rw [wr_ne (by omega)]; show wr m 0 0 0 0 0 = nI 0; exact wr_eq _ _ _ _, rR_mayUse h ht hk q (decl_pos ht q1) q3⟩
    · rw [if_neg q4, if_pos (isIn_no (Or.inr (i32_nle2.mp q4))), key2 q]
      exact ⟨wr_eq _ _ _ _, rR_thrown h 2⟩
  · rw [if_neg q]
    have e : ∀ x y : St, x = y → x 0 0 = y 0 0 := fun x y z => by rw [z]
    have hall : (if f_M_isDeclared m p1 = 0 then f_M_mayUse_B31 m (m 0 1) p1 p2 p3 else if f_M_isThing p2 = 0 then f_M_mayUse_B31 m (m 0 1) p1 p2 p3 else if p3 < 1 then f_M_mayUse_B31 m (m 0 1) p1 p2 p3 else if p3 ≤ 50 then f_M_mayUse_B36 m (m 0 1) 0 p1 p2 p3 else f_M_mayUse_B31 m (m 0 1) p1 p2 p3) = wr m 0 0 1 := by
      unfold f_M_mayUse_B31
      rw [key 1 q, key 0 q]
      simp only [ite_self]
    rw [hall]
    exact ⟨wr_eq _ _ _ _, rR_thrown h 1⟩
-- the sealing
theorem gb_congr {s s' : St} (hs : ∀ i k, i < 8 → s' (5 + 2 * i) k = s (5 + 2 * i) k ∧ s' (5 + 2 * i + 1) k = s (5 + 2 * i + 1) k) (x : Int32) : f_C_greatestBaseOfUsers s' x = f_C_greatestBaseOfUsers s x := by
  have h : ∀ (n i : Nat) (v : Int32), i + n = 8 → f_C_greatestBaseOfUsers_L4 n i s' x v = f_C_greatestBaseOfUsers_L4 n i s x v := by
    intro n
    induction n with
    | zero => intro i v _; rw [f_C_greatestBaseOfUsers_L4, f_C_greatestBaseOfUsers_L4]
    | succ n ih =>
      intro i v hi
      rw [f_C_greatestBaseOfUsers_L4, f_C_greatestBaseOfUsers_L4, f_T_isUserOf, f_T_isUserOf, (hs i _ (by omega)).2, (hs i _ (by omega)).1, ih _ _ (by omega), ih _ _ (by omega)]
  exact h 8 0 0 rfl
theorem sealL : ∀ (n i : Nat) (s : St), i + n = 6 → ∃ s', f_C_seal_L24 n i s = (0, f_C_countDeclared s', s') ∧ (∀ j k, j < 21 ∨ ¬ k = 0 → s' j k = s j k) ∧ (∀ k, k < i → s' (21 + k) 0 = s (21 + k) 0) ∧ ∀ k, i ≤ k → k < 6 → s' (21 + k) 0 = f_C_greatestBaseOfUsers s (nI k) := by
  intro n
  induction n with
  | zero => intro i s hi; exact ⟨s, by rw [f_C_seal_L24], fun _ _ _ => rfl, fun _ _ => rfl, fun k h1 h2 => by omega⟩
  | succ n ih =>
    intro i s hi
    obtain ⟨s', e1, e2, e3, e4⟩ := ih (i + 1) (wr s (21 + i) 0 (f_C_greatestBaseOfUsers s (nI i))) (by omega)
    refine ⟨s', by rw [f_C_seal_L24]; exact e1, fun j k hj => ?_, fun k hk => ?_, fun k h1 h2 => ?_⟩
    · rw [e2 j k hj]
      exact wr_ne (by omega)
    · rw [e3 k (by omega)]
      exact wr_ne (by omega)
    · by_cases e : k = i
      · subst e
        rw [e3 k (by omega), wr_eq]
      · rw [e4 k (by omega) h2]
        exact gb_congr (fun j k hj => ⟨wr_ne (by omega), wr_ne (by omega)⟩) _
theorem op_seal (h : rR n c m) : (f_M_seal m).2 0 0 = nI (f_C_seal c).1 ∧ ((f_C_seal c).1 = 0 → (f_C_seal c).2.1 = (f_M_seal m).1) ∧ rR n (f_C_seal c).2.2 (f_M_seal m).2 := by
  have hse := h.1.1.1
  rw [f_C_seal, f_M_seal, hse]
  by_cases q : m 0 1 = 0
  · rw [if_pos q, q, ref_ok, f_M_seal_S9, if_pos rfl, f_M_seal_S19, f_C_seal_S22]
    obtain ⟨c', e1, e2, -, e4⟩ := sealL 6 0 (wr c 0 3 1) rfl
    have h' := rR_thrown h 0
    have q' : wr m 0 0 0 0 1 = 0 := by rw [wr_ne (by decide)]; exact q
    have t0 : wr m 0 0 0 0 0 = 0 := wr_eq _ _ _ _
    generalize wr m 0 0 0 = m at *
    obtain ⟨⟨hS, hT, hL, hQ, hD, hH, hU, hC, hE, hN⟩, hr⟩ := h'
    have hz : ∀ t, t < 8 → m 4 t = 0 := by
      rcases hE with ⟨-, h0⟩ | ⟨h0, -⟩
      · exact h0
      · rw [q'] at h0; exact absurd h0 (by decide)
    have mj : ∀ j, j ≠ 0 → wr m 0 1 1 j = m j := fun j hj => wr_cell hj
    have m0 : ∀ k, k ≠ 1 → wr m 0 1 1 0 k = m 0 k := fun k hk => wr_ne (fun z => hk z.2)
    have cj : ∀ j k, j < 21 ∨ ¬ k = 0 → ¬ (j = 0 ∧ k = 3) → c' j k = c j k := fun j k h1 h2 => by rw [e2 j k h1]; exact wr_ne h2
    have hT1 : rT (wr c 0 3 1) m := fun i hi => by rw [wr_ne (by omega), wr_ne (by omega), wr_ne (by omega), wr_ne (by omega), wr_ne (by omega)]; exact hT i hi
    have hL1 : rL (wr c 0 3 1) m := fun i k hi hk => by rw [wr_ne (by omega)]; exact hL i k hi hk
    have hT2 : rT c' m := fun i hi => by rw [cj _ _ (by omega) (by omega), cj _ _ (by omega) (by omega), cj _ _ (by omega) (by omega), cj _ _ (by omega) (by omega), cj _ _ (by omega) (by omega)]; exact hT i hi
    have hlast : ∀ r b y, isLast (wr m 0 1 1) r b y = isLast m r b y := by
      intro r b y
      unfold isLast
      rw [mj 9 (by decide), mj 11 (by decide)]
    have hcnt : f_M_seal_L23 8 0 (wr m 0 1 1) 0 = (f_C_countDeclared c', wr m 0 1 1) := by
      refine count_eq (c := c') (m := wr m 0 1 1) ?_ ?_ 8 0 0 rfl
      · intro i hi
        rw [mj 1 (by decide), mj 2 (by decide), mj 3 (by decide), mj 6 (by decide), mj 7 (by decide)]
        exact hT2 i hi
      · intro i hi
        rw [mj 1 (by decide), mj 3 (by decide), mj 8 (by decide)]
        exact hD i hi
    rw [hcnt, e1]
    refine ⟨by show wr m 0 1 1 0 0 = nI 0; rw [m0 0 (by decide), t0]; rfl, fun _ => rfl, ?_⟩
    show rR n c' (wr m 0 1 1)
    refine ⟨⟨?_, ?_, ?_, ?_, ?_, ?_, ?_, ?_, ?_, ?_⟩, ?_⟩
    · obtain ⟨a1, a2, a3, a4, a5⟩ := hS
      refine ⟨?_, ?_, ?_, ?_, ?_⟩
      · show c' 0 3 = wr m 0 1 1 0 1
        rw [e2 0 3 (by omega), wr_eq, wr_eq]
      · show c' 0 4 = wr m 0 1 1 0 2
        rw [cj _ _ (by omega) (by omega), m0 _ (by decide), a2]
      · show c' 0 5 = wr m 0 1 1 0 3
        rw [cj _ _ (by omega) (by omega), m0 _ (by decide), a3]
      · show c' 3 1 = wr m 0 1 1 0 16
        rw [cj _ _ (by omega) (by omega), m0 _ (by decide), a4]
      · intro i
        show c' 4 i = wr m 0 1 1 12 i
        rw [cj _ _ (by omega) (by omega), mj 12 (by decide), a5]
    · intro i hi
      rw [mj 1 (by decide), mj 2 (by decide), mj 3 (by decide), mj 6 (by decide), mj 7 (by decide)]
      exact hT2 i hi
    · intro i k hi hk
      show c' (5 + 2 * i + 1) k = wr m 0 1 1 8 (6 * i + k)
      rw [cj _ _ (by omega) (by omega), mj 8 (by decide)]
      exact hL i k hi hk
    · intro i hi
      show (c' (5 + 2 * i) 4 = 0 ∧ _) ∨ (c' (5 + 2 * i) 4 = 1 ∧ _ ∧ _ ∧ c' (5 + 2 * i) 6 = _ ∧ c' (5 + 2 * i) 5 = _)
      rw [cj _ _ (by omega) (by omega), cj _ _ (by omega) (by omega), cj _ _ (by omega) (by omega), mj 4 (by decide), mj 5 (by decide), mj 1 (by decide)]
      exact hQ i hi
    · intro i hi
      rw [mj 1 (by decide), mj 3 (by decide), mj 8 (by decide)]
      exact hD i hi
    · intro k hk
      show c' (21 + k) 1 = _ ∧ (_ ∨ (c' (21 + k) 3 = _ ∧ _ ∧ _ ∧ _ ∧ isLast _ _ _ (c' (21 + k) 2)))
      rw [cj _ _ (by omega) (by omega), cj _ _ (by omega) (by omega), cj _ _ (by omega) (by omega), mj 9 (by decide), mj 10 (by decide), mj 11 (by decide), mj 4 (by decide), m0 15 (by decide), hlast]
      exact hH k hk
    · unfold rU
      rw [mj 9 (by decide), mj 11 (by decide)]
      exact hU
    · intro i hi
      show isLast _ _ _ (c' (5 + 2 * i) 7)
      rw [hlast, m0 15 (by decide), cj _ _ (by omega) (by omega)]
      exact hC i hi
    · refine Or.inr ⟨wr_eq _ _ _ _, fun k hk => ?_⟩
      show c' (21 + k) 0 = _
      rw [e4 k (by omega) hk, top_congr (mj 1 (by decide)) (mj 8 (by decide))]
      exact top_eq hT1 hL1 hk 8 0 0 rfl
    · unfold rN
      rw [m0 2 (by decide), m0 3 (by decide), m0 15 (by decide), m0 16 (by decide)]
      exact hN
    · show c' 0 6 = _
      rw [cj _ _ (by omega) (by omega), hr, runner_congr (mj 4 (by decide)) (mj 5 (by decide))]
  · rw [if_neg q, ref_1 q, f_M_seal_S9, if_neg i1ne]
    exact ⟨(show wr m 0 0 1 0 0 = nI 1 from wr_eq _ _ _ _), fun z => absurd (show (1 : Nat) = 0 from z) (by decide), rR_thrown h 1⟩
end ACT2
