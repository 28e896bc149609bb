section PASS
variable {n : Nat} {c m : St}
theorem delayL (b v : Int32) : ∀ (n i : Nat) (s : St), i + n = 8 → (∀ j k, ¬ (k = 9 ∧ ∃ t, i ≤ t ∧ t < 8 ∧ j = 5 + 2 * t) → f_C_delayMoreUrgentThan_L2 n i s b v j k = s j k) ∧ ∀ t, i ≤ t → t < 8 → f_C_delayMoreUrgentThan_L2 n i s b v (5 + 2 * t) 9 = if s (5 + 2 * t) 4 = 0 then s (5 + 2 * t) 9 else if s (5 + 2 * t) 0 ≤ b then s (5 + 2 * t) 9 else s (5 + 2 * t) 9 + v := by
  intro n
  induction n with
  | zero =>
    intro i s hi
    rw [f_C_delayMoreUrgentThan_L2]
    exact ⟨fun _ _ _ => rfl, fun t h1 h2 => by omega⟩
  | succ n ih =>
    intro i s hi
    have stay : f_C_delayMoreUrgentThan_L2 (n + 1) i s b v = f_C_delayMoreUrgentThan_L2 n (i + 1) s b v → (∀ x, (if s (5 + 2 * i) 4 = 0 then s (5 + 2 * i) 9 else if s (5 + 2 * i) 0 ≤ b then s (5 + 2 * i) 9 else x) = s (5 + 2 * i) 9) → (∀ j k, ¬ (k = 9 ∧ ∃ t, i ≤ t ∧ t < 8 ∧ j = 5 + 2 * t) → f_C_delayMoreUrgentThan_L2 (n + 1) i s b v j k = s j k) ∧ ∀ t, i ≤ t → t < 8 → f_C_delayMoreUrgentThan_L2 (n + 1) i s b v (5 + 2 * t) 9 = if s (5 + 2 * t) 4 = 0 then s (5 + 2 * t) 9 else if s (5 + 2 * t) 0 ≤ b then s (5 + 2 * t) 9 else s (5 + 2 * t) 9 + v := by
      intro e hx
      obtain ⟨h1, h2⟩ := ih (i + 1) s (by omega)
      rw [e]
      refine ⟨fun j k hj => h1 j k (fun ⟨z1, t, z2, z3, z4⟩ => hj ⟨z1, t, by omega, z3, z4⟩), fun t ht ht8 => ?_⟩
      by_cases z : t = i
      · subst z
        rw [hx, h1 _ _ (fun ⟨_, t', z2, _, z4⟩ => by omega)]
      · exact h2 t (by omega) ht8
    by_cases q1 : s (5 + 2 * i) 4 = 0
    · exact stay (by rw [f_C_delayMoreUrgentThan_L2, if_pos q1]) (fun x => by rw [if_pos q1])
    by_cases q2 : s (5 + 2 * i) 0 ≤ b
    · exact stay (by rw [f_C_delayMoreUrgentThan_L2, if_neg q1, if_pos q2]) (fun x => by rw [if_neg q1, if_pos q2])
    obtain ⟨h1, h2⟩ := ih (i + 1) (wr s (5 + 2 * i) 9 (s (5 + 2 * i) 9 + v)) (by omega)
    rw [f_C_delayMoreUrgentThan_L2, if_neg q1, if_neg q2]
    refine ⟨fun j k hj => ?_, fun t ht ht8 => ?_⟩
    · rw [h1 j k (fun ⟨z1, t, z2, z3, z4⟩ => hj ⟨z1, t, by omega, z3, z4⟩)]
      exact wr_ne (fun z => hj ⟨z.2, i, by omega, by omega, z.1⟩)
    · by_cases z : t = i
      · subst z
        rw [if_neg q1, if_neg q2, h1 _ _ (fun ⟨_, t', z2, _, z4⟩ => by omega), wr_eq]
      · rw [h2 t (by omega) ht8]
        simp (disch := omega) only [wr_ne]
theorem passL {r : Nat} (hr : r < 8) (v : Int32) : ∀ (n i : Nat) (s : St), i + n = 8 → ∃ s', f_M_pass_L42 n i s v (nI r) = (s' 0 2, s') ∧ (∀ j k, ¬ ((j = 6 ∨ j = 7) ∧ i ≤ k ∧ k < 8) → s' j k = s j k) ∧ ∀ t, i ≤ t → t < 8 → s' 6 t = (if t = r then s 6 t + v else s 6 t) ∧ s' 7 t = if s 4 t ≤ 0 then s 7 t else if s 1 t ≤ s 1 r then s 7 t else s 7 t + v := by
  intro n
  induction n with
  | zero =>
    intro i s hi
    rw [f_M_pass_L42]
    exact ⟨s, rfl, fun _ _ _ => rfl, fun t h1 h2 => by omega⟩
  | succ n ih =>
    intro i s hi
    have hne : ¬ nI r = (-1) := nI_neg (by omega)
    -- one round
    have step : ∀ W D : Int32, W = (if i = r then s 6 i + v else s 6 i) → D = (if s 4 i ≤ 0 then s 7 i else if s 1 i ≤ s 1 r then s 7 i else s 7 i + v) → f_M_pass_L42 (n + 1) i s v (nI r) = f_M_pass_L42 n (i + 1) (wr (wr s 6 i W) 7 i D) v (nI r) → ∃ s', f_M_pass_L42 (n + 1) i s v (nI r) = (s' 0 2, s') ∧ (∀ j k, ¬ ((j = 6 ∨ j = 7) ∧ i ≤ k ∧ k < 8) → s' j k = s j k) ∧ ∀ t, i ≤ t → t < 8 → s' 6 t = (if t = r then s 6 t + v else s 6 t) ∧ s' 7 t = if s 4 t ≤ 0 then s 7 t else if s 1 t ≤ s 1 r then s 7 t else s 7 t + v := by
      intro W D hW hD he
      obtain ⟨s', e1, e2, e3⟩ := ih (i + 1) (wr (wr s 6 i W) 7 i D) (by omega)
      refine ⟨s', by rw [he]; exact e1, fun j k hj => ?_, fun t ht ht8 => ?_⟩
      · rw [e2 j k (fun z => hj ⟨z.1, by omega, z.2.2⟩)]
        exact (wr_ne (fun z => hj ⟨Or.inr z.1, by omega, by omega⟩)).trans (wr_ne (fun z => hj ⟨Or.inl z.1, by omega, by omega⟩))
      · by_cases z : t = i
        · subst z
          rw [e2 6 t (by omega), e2 7 t (by omega), ← hW, ← hD]
          simp (disch := omega) only [wr_ne, wr_eq, and_self]
        · have e4 := e3 t (by omega) ht8
          simp (disch := omega) only [wr_ne] at e4
          exact e4
    by_cases q0 : i = r
    · skip
      have e0 : f_M_pass_L42 (n + 1) i s v (nI r) = if s 4 i ≤ 0 then f_M_pass_L42 n (i + 1) (wr (wr s 6 i (s 6 i + v)) 7 i (s 7 i)) v (nI r) else if s 1 i ≤ s 1 r then f_M_pass_L42 n (i + 1) (wr (wr s 6 i (s 6 i + v)) 7 i (s 7 i)) v (nI r) else f_M_pass_L42 n (i + 1) (wr (wr s 6 i (s 6 i + v)) 7 i (s 7 i + v)) v (nI r) := by
        rw [f_M_pass_L42, if_neg hne, if_pos (by rw [q0]), nI_clamp (n := r) (by omega)]
        simp (disch := omega) only [wr_ne, Int32.add_zero]
      by_cases q1 : s 4 i ≤ 0
      · exact step (s 6 i + v) (s 7 i) (if_pos q0).symm (if_pos q1).symm (by rw [e0, if_pos q1])
      by_cases q2 : s 1 i ≤ s 1 r
      · exact step (s 6 i + v) (s 7 i) (if_pos q0).symm (by rw [if_neg q1, if_pos q2]) (by rw [e0, if_neg q1, if_pos q2])
      · exact step (s 6 i + v) (s 7 i + v) (if_pos q0).symm (by rw [if_neg q1, if_neg q2]) (by rw [e0, if_neg q1, if_neg q2])
    · have q0' : ¬ nI i = nI r := fun z => q0 (nI_inj (by omega) (by omega) z)
      have e0 : f_M_pass_L42 (n + 1) i s v (nI r) = if s 4 i ≤ 0 then f_M_pass_L42 n (i + 1) (wr (wr s 6 i (s 6 i)) 7 i (s 7 i)) v (nI r) else if s 1 i ≤ s 1 r then f_M_pass_L42 n (i + 1) (wr (wr s 6 i (s 6 i)) 7 i (s 7 i)) v (nI r) else f_M_pass_L42 n (i + 1) (wr (wr s 6 i (s 6 i)) 7 i (s 7 i + v)) v (nI r) := by
        rw [f_M_pass_L42, if_neg hne, if_neg q0', nI_clamp (n := r) (by omega)]
        simp (disch := omega) only [wr_ne, Int32.add_zero]
      by_cases q1 : s 4 i ≤ 0
      · exact step (s 6 i) (s 7 i) (if_neg q0).symm (if_pos q1).symm (by rw [e0, if_pos q1])
      by_cases q2 : s 1 i ≤ s 1 r
      · exact step (s 6 i) (s 7 i) (if_neg q0).symm (by rw [if_neg q1, if_pos q2]) (by rw [e0, if_neg q1, if_pos q2])
      · exact step (s 6 i) (s 7 i + v) (if_neg q0).symm (by rw [if_neg q1, if_neg q2]) (by rw [e0, if_neg q1, if_neg q2])
/-- a passing of time changes clock, works and delays alone -/
theorem rR_pass (h : rR n c m) (hn : n < 900) {c' m' : St} {p : Nat} (hp : p ≤ 100) (hc : ∀ j k, ¬ (j = 0 ∧ k = 4) → ¬ ((k = 8 ∨ k = 9) ∧ ∃ t, t < 8 ∧ j = 5 + 2 * t) → c' j k = c j k) (hm : ∀ j k, ¬ (j = 0 ∧ (k = 0 ∨ k = 2)) → ¬ (j = 6 ∨ j = 7) → m' j k = m j k)
    (h1 : c' 0 4 = c 0 4 + nI p) (h2 : m' 0 2 = m 0 2 + nI p) (h8 : ∀ t, t < 8 → c' (5 + 2 * t) 8 = m' 6 t) (h9 : ∀ t, t < 8 → c' (5 + 2 * t) 9 = m' 7 t) : rR (n + 1) c' m' := by
  obtain ⟨⟨hS, hT, hL, hQ, hD, hH, hU, hC, hE, hN⟩, hr⟩ := h
  obtain ⟨a, b, d, e, q1, q2, q3, q4, q5, q6, q7, q8⟩ := hN
  have mr : ∀ j, j ≠ 0 → j ≠ 6 → j ≠ 7 → m' j = m j := fun j a1 a2 a3 => funext fun k => hm j k (by omega) (by omega)
  have m0 : ∀ k, k ≠ 0 → k ≠ 2 → m' 0 k = m 0 k := fun k a1 a2 => hm 0 k (by omega) (by omega)
  have cl : ∀ i k, c' (5 + 2 * i + 1) k = c (5 + 2 * i + 1) k := fun i k => hc _ _ (by omega) (by rintro ⟨-, t, -, z⟩; omega)
  have ct : ∀ i k, k < 8 → c' (5 + 2 * i) k = c (5 + 2 * i) k := fun i k hk => hc _ _ (by omega) (by omega)
  have ck : ∀ i k, c' (21 + i) k = c (21 + i) k := fun i k => hc _ _ (by omega) (by rintro ⟨-, t, z1, z⟩; omega)
  have c0 : ∀ k, k ≠ 4 → c' 0 k = c 0 k := fun k hk => hc _ _ (by omega) (by rintro ⟨-, t, -, z⟩; omega)
  have c3 : ∀ k, c' 3 k = c 3 k := fun k => hc _ _ (by omega) (by rintro ⟨-, t, -, z⟩; omega)
  have c4 : ∀ k, c' 4 k = c 4 k := fun k => hc _ _ (by omega) (by rintro ⟨-, t, -, z⟩; omega)
  have e1 := mr 1 (by decide) (by decide) (by decide)
  have e2 := mr 2 (by decide) (by decide) (by decide)
  have e3 := mr 3 (by decide) (by decide) (by decide)
  have e4 := mr 4 (by decide) (by decide) (by decide)
  have e5 := mr 5 (by decide) (by decide) (by decide)
  have e8 := mr 8 (by decide) (by decide) (by decide)
  have e9 := mr 9 (by decide) (by decide) (by decide)
  have e10 := mr 10 (by decide) (by decide) (by decide)
  have e11 := mr 11 (by decide) (by decide) (by decide)
  have e12 := mr 12 (by decide) (by decide) (by decide)
  have hlst : ∀ r' b y, isLast m' r' b y = isLast m r' b y := by
    intro r' b y
    unfold isLast
    rw [e9, e11]
  refine ⟨⟨?_, ?_, ?_, ?_, ?_, ?_, ?_, ?_, ?_, ?_⟩, ?_⟩
  · obtain ⟨a1, a2, a3, a4, a5⟩ := hS
    exact ⟨by rw [c0 _ (by decide), m0 _ (by decide) (by decide), a1], by rw [h1, h2, a2], by rw [c0 _ (by decide), m0 _ (by decide) (by decide), a3], by rw [c3, m0 _ (by decide) (by decide), a4], fun i => by rw [c4, e12, a5]⟩
  · intro i hi
    rw [e1, e2, e3, ct _ 0 (by decide), ct _ 1 (by decide), ct _ 2 (by decide)]
    exact ⟨(hT i hi).1, (hT i hi).2.1, (hT i hi).2.2.1, h8 i hi, h9 i hi⟩
  · intro i k hi hk
    rw [cl, e8]
    exact hL i k hi hk
  · intro i hi
    rw [ct _ 4 (by decide), ct _ 5 (by decide), ct _ 6 (by decide), e4, e5, e1]
    exact hQ i hi
  · intro i hi
    rw [e1, e3, e8]
    exact hD i hi
  · intro k hk
    rw [ck, ck, ck, e9, e10, e11, e4, m0 15 (by decide) (by decide), hlst]
    exact hH k hk
  · unfold rU
    rw [e9, e11]
    exact hU
  · intro i hi
    rw [hlst, m0 15 (by decide) (by decide), ct _ 7 (by decide)]
    exact hC i hi
  · rcases hE with ⟨z1, z2⟩ | ⟨z1, z2⟩
    · exact Or.inl ⟨by rw [m0 1 (by decide) (by decide)]; exact z1, fun t ht => by rw [e4]; exact z2 t ht⟩
    · exact Or.inr ⟨by rw [m0 1 (by decide) (by decide)]; exact z1, fun k hk => by rw [ck, top_congr e1 e8]; exact z2 k hk⟩
  · exact ⟨a + p, b, d, e, by rw [h2, q1, nI_add], by omega, by rw [m0 3 (by decide) (by decide)]; exact q3, by omega, by rw [m0 15 (by decide) (by decide)]; exact q5, by omega, by rw [m0 16 (by decide) (by decide)]; exact q7, by omega⟩
  · rw [c0 _ (by decide), hr, runner_congr e4 e5]
theorem op_pass (h : rR n c m) (hn : n < 900) (x : Int32) : ((f_C_pass c x).1 = 2 ∧ (f_M_pass m x).2 0 0 = 1 ∧ rR (n + 1) (f_C_pass c x).2.2 (f_M_pass m x).2) ∨ ((f_C_pass c x).1 = 0 ∧ (f_M_pass m x).2 0 0 = 0 ∧ (f_C_pass c x).2.1 = (f_M_pass m x).1 ∧ rR (n + 1) (f_C_pass c x).2.2 (f_M_pass m x).2) := by
  have b11 : f_M_pass_B11 m x = (0, wr m 0 0 1) := by
    rw [f_M_pass_B11, f_M_pass_B16, ref_1 i1ne, f_M_pass_S20, if_neg i1ne]
  have no : ((2 : Nat), (0 : Int32), c).1 = 2 ∧ ((0 : Int32), wr m 0 0 1).2 0 0 = 1 ∧ rR (n + 1) ((2 : Nat), (0 : Int32), c).2.2 ((0 : Int32), wr m 0 0 1).2 := ⟨rfl, (show wr m 0 0 1 0 0 = 1 from wr_eq _ _ _ _), rR_succ (rR_thrown h 1)⟩
  rw [f_C_pass, f_M_pass, b11]
  by_cases q1 : x < 0
  · rw [if_pos q1, if_pos (isIn_no (Or.inl q1))]
    exact Or.inl no
  rw [if_neg q1]
  by_cases q2 : x ≤ 100
  · rw [if_pos q2, if_neg (isIn_ok q1 (i32_nlt.mpr q2)), f_M_pass_B16, ref_ok, f_M_pass_S20, if_pos rfl, f_M_pass_S40, f_C_pass_S30]
    obtain ⟨p, hp, rfl⟩ := nI_of2 (M := 100) (n := 100) rfl q1 q2
    have hran : f_M_runner (wr m 0 0 0) = f_M_runner m := runner_congr (wr_cell (by decide)) (wr_cell (by decide))
    have c6 : wr c 0 4 (c 0 4 + nI p) 0 6 = f_M_runner m := by rw [wr_ne (by decide)]; exact h.2
    rw [hran, c6]
    refine Or.inr ?_
    by_cases q3 : f_M_runner m = (-1)
    · rw [if_pos q3, q3, f_M_pass_L42, if_pos rfl]
      have h1 : wr c 0 4 (c 0 4 + nI p) 0 4 = c 0 4 + nI p := wr_eq _ _ _ _
      have h2 : wr (wr m 0 0 0) 0 2 (wr m 0 0 0 0 2 + nI p) 0 2 = m 0 2 + nI p := by simp (disch := omega) only [wr_eq, wr_ne]
      refine ⟨rfl, ?_, ?_, ?_⟩
      · show wr (wr m 0 0 0) 0 2 (wr m 0 0 0 0 2 + nI p) 0 0 = 0
        simp (disch := omega) only [wr_ne, wr_eq]
      · show wr c 0 4 (c 0 4 + nI p) 0 4 = wr (wr m 0 0 0) 0 2 (wr m 0 0 0 0 2 + nI p) 0 2
        rw [h1, h2, h.1.1.2.1]
      · refine rR_pass (c' := wr c 0 4 (c 0 4 + nI p)) (m' := wr (wr m 0 0 0) 0 2 (wr m 0 0 0 0 2 + nI p)) h hn hp (fun j k z _ => wr_ne z) (fun j k z1 z2 => (wr_ne (by omega)).trans (wr_ne (by omega))) h1 h2 (fun t ht => ?_) (fun t ht => ?_)
        · simp (disch := omega) only [wr_ne]
          exact (h.1.2.1 t ht).2.2.2.1
        · simp (disch := omega) only [wr_ne]
          exact (h.1.2.1 t ht).2.2.2.2
    · obtain ⟨r, hr8, hrun, hrdy⟩ := (runner_cases m).resolve_left q3
      obtain ⟨m', f1, f2, f3⟩ := passL hr8 (nI p) 8 0 (wr (wr m 0 0 0) 0 2 (wr m 0 0 0 0 2 + nI p)) rfl
      rw [if_neg q3, hrun, f1, nI_clamp (by omega), f_C_pass_S56, f_C_pass_S73, f_C_delayMoreUrgentThan]
      have cR : wr (wr c 0 4 (c 0 4 + nI p)) (5 + 2 * r) 8 (wr c 0 4 (c 0 4 + nI p) (5 + 2 * r) 8 + nI p) 0 6 = nI r := by
        simp (disch := omega) only [wr_ne]
        rw [h.2, hrun]
      rw [cR, nI_clamp (by omega)]
      obtain ⟨g1, g2⟩ := delayL (wr (wr c 0 4 (c 0 4 + nI p)) (5 + 2 * r) 8 (wr c 0 4 (c 0 4 + nI p) (5 + 2 * r) 8 + nI p) (5 + 2 * r) 0) (nI p) 8 0 (wr (wr c 0 4 (c 0 4 + nI p)) (5 + 2 * r) 8 (wr c 0 4 (c 0 4 + nI p) (5 + 2 * r) 8 + nI p)) rfl
      generalize hC9 : f_C_delayMoreUrgentThan_L2 8 0 (wr (wr c 0 4 (c 0 4 + nI p)) (5 + 2 * r) 8 (wr c 0 4 (c 0 4 + nI p) (5 + 2 * r) 8 + nI p)) (wr (wr c 0 4 (c 0 4 + nI p)) (5 + 2 * r) 8 (wr c 0 4 (c 0 4 + nI p) (5 + 2 * r) 8 + nI p) (5 + 2 * r) 0) (nI p) = c' at *
      have h1 : c' 0 4 = c 0 4 + nI p := by
        rw [g1 0 4 (fun z => absurd z.1 (by decide))]
        simp (disch := omega) only [wr_ne, wr_eq]
      have h2 : m' 0 2 = m 0 2 + nI p := by
        rw [f2 0 2 (by omega)]
        simp (disch := omega) only [wr_ne, wr_eq]
      refine ⟨rfl, ?_, ?_, ?_⟩
      · show m' 0 0 = 0
        rw [f2 0 0 (by omega)]
        simp (disch := omega) only [wr_ne, wr_eq]
      · show c' 0 4 = m' 0 2
        rw [h1, h2, h.1.1.2.1]
      · show rR (n + 1) c' m'
        refine rR_pass h hn hp (fun j k z1 z2 => ?_) (fun j k z1 z2 => ?_) h1 h2 (fun t ht => ?_) (fun t ht => ?_)
        · rw [g1 j k (fun ⟨w1, t, _, w2, w3⟩ => z2 ⟨Or.inr w1, t, w2, w3⟩)]
          exact (wr_ne (fun w => z2 ⟨Or.inl w.2, r, hr8, w.1⟩)).trans (wr_ne z1)
        · rw [f2 j k (fun w => z2 w.1)]
          exact (wr_ne (by omega)).trans (wr_ne (by omega))
        · rw [g1 _ _ (fun z => absurd z.1 (by decide)), (f3 t (by omega) ht).1]
          simp (disch := omega) only [wr_ne]
          by_cases z : t = r
          · subst z
            rw [wr_eq, if_pos rfl, (h.1.2.1 t ht).2.2.2.1]
          · rw [if_neg z]
            simp (disch := omega) only [wr_ne]
            exact (h.1.2.1 t ht).2.2.2.1
        · rw [g2 t (by omega) ht, (f3 t (by omega) ht).2]
          simp (disch := omega) only [wr_ne]
          rw [(h.1.2.1 t ht).1, (h.1.2.1 r hr8).1, (h.1.2.1 t ht).2.2.2.2]
          by_cases z : m 4 t ≤ 0
          · rw [if_pos z, if_pos ((ready_iff h.1.2.2.2.1 ht).mpr z)]
          · rw [if_neg z, if_neg (fun w => z ((ready_iff h.1.2.2.2.1 ht).mp w))]
  · rw [if_neg q2, if_pos (isIn_no (Or.inr (i32_nle2.mp q2)))]
    exact Or.inl no
end PASS
