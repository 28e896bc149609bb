-- calls that change something, before the sealing and the sealing itself
section REF
variable {s : St} {a b : Int32}
theorem ref_B0 (s : St) : f_M_refuses_B18 s 0 = (0, wr s 0 0 0) := by
  unfold f_M_refuses_B18 f_M_refuses_S21
  rw [wr_eq, if_pos (by decide)]
theorem ref_B1 (s : St) : f_M_refuses_B18 s 1 = (1, wr s 0 0 1) := by
  unfold f_M_refuses_B18 f_M_refuses_S21
  rw [wr_eq, if_neg (by decide)]
theorem ref_B2 (s : St) : f_M_refuses_B18 s 2 = (1, wr s 0 0 2) := by
  unfold f_M_refuses_B18 f_M_refuses_S21
  rw [wr_eq, if_neg (by decide)]
theorem ref_ok (s : St) : f_M_refuses s 0 0 = (0, wr s 0 0 0) := by
  rw [f_M_refuses, if_pos rfl, if_pos rfl, ref_B0]
theorem ref_1 (h : ¬ a = 0) : f_M_refuses s a b = (1, wr s 0 0 1) := by
  rw [f_M_refuses, if_neg h, ref_B1]
theorem ref_2 (h : ¬ b = 0) : f_M_refuses s 0 b = (1, wr s 0 0 2) := by
  rw [f_M_refuses, if_pos rfl, if_neg h, ref_B2]
end REF
theorem i1ne : ¬ (1 : Int32) = 0 := by decide
section ACT1
variable {n : Nat} {c m : St}
theorem runner_none (h : ∀ t, t < 8 → m 4 t = 0) : f_M_runner m = (-1) := by
  have h1 : ∀ (n i : Nat), i + n = 8 → f_M_runner_L4 n i m (-1) = (-1) := by
    intro n
    induction n with
    | zero => intro i _; rw [f_M_runner_L4]
    | succ n ih =>
      intro i hi
      rw [f_M_runner_L4, h i (by omega), if_pos (by decide)]
      exact ih _ (by omega)
  exact h1 8 0 rfl
def okDecl (p1 p2 p3 p4 : Int32) : Prop := ¬ f_M_isTask p1 = 0 ∧ ¬ p2 < 1 ∧ ¬ 16 < p2 ∧ ¬ p3 < 1 ∧ ¬ 50 < p3 ∧ ¬ p4 < 1 ∧ p4 ≤ 200
theorem dM_ok {p1 p2 p3 p4 : Int32} (g : okDecl p1 p2 p3 p4) : f_M_declare m p1 p2 p3 p4 = f_M_declare_B48 m 0 p1 p2 p3 p4 := by
  obtain ⟨h1, h2, h3, h4, h5, h6, h7⟩ := g
  rw [f_M_declare, if_neg h1, if_neg h2, if_neg h3, if_neg h4, if_neg h5, if_neg h6, if_pos h7]
theorem dM_no {p1 p2 p3 p4 : Int32} (g : ¬ okDecl p1 p2 p3 p4) : f_M_declare m p1 p2 p3 p4 = f_M_declare_B48 m 1 p1 p2 p3 p4 := by
  rw [f_M_declare]
  by_cases h1 : f_M_isTask p1 = 0
  · rw [if_pos h1]; rfl
  rw [if_neg h1]
  by_cases h2 : p2 < 1
  · rw [if_pos h2]; rfl
  rw [if_neg h2]
  by_cases h3 : 16 < p2
  · rw [if_pos h3]; rfl
  rw [if_neg h3]
  by_cases h4 : p3 < 1
  · rw [if_pos h4]; rfl
  rw [if_neg h4]
  by_cases h5 : 50 < p3
  · rw [if_pos h5]; rfl
  rw [if_neg h5]
  by_cases h6 : p4 < 1
  · rw [if_pos h6]; rfl
  rw [if_neg h6]
  by_cases h7 : p4 ≤ 200
  · exact absurd ⟨h1, h2, h3, h4, h5, h6, h7⟩ g
  · rw [if_neg h7]; rfl
theorem isIn_no {x a b : Int32} (h : x < a ∨ b < x) : f_C_isIn x a b = 0 := by
  unfold f_C_isIn
  by_cases h1 : x < a
  · rw [if_pos h1]
  · rw [if_neg h1, if_pos (h.resolve_left h1)]
theorem isIn_ok {x a b : Int32} (h1 : ¬ x < a) (h2 : ¬ b < x) : ¬ f_C_isIn x a b = 0 := by
  unfold f_C_isIn
  rw [if_neg h1, if_neg h2]
  decide
/-- what a good declare writes, in the class's state -/
def dW (c : St) (t : Nat) (p2 p3 p4 : Int32) : St := wr (wr (wr c (5 + 2 * t) 0 p2) (5 + 2 * t) 1 p3) (5 + 2 * t) 2 p4
def dV (m : St) (t : Nat) (p2 p3 p4 : Int32) : St := wr (wr (wr (wr (wr m 0 0 0) 1 t p2) 2 t p3) 3 t p4) 5 t p2
theorem dC_ok {p1 p2 p3 p4 : Int32} (h1 : c 0 3 = 0) (h2 : f_C_isDeclared c p1 = 0) (g : okDecl p1 p2 p3 p4) : f_C_declare c p1 p2 p3 p4 = (0, 0, dW c p1.toNatClampNeg p2 p3 p4) := by
  obtain ⟨g1, g2, g3, g4, g5, g6, g7⟩ := g
  rw [f_C_declare, if_pos h1, if_pos h2, isTask_eq, if_neg g1, if_neg (isIn_ok g2 g3), if_neg (isIn_ok g4 g5), if_neg (isIn_ok g6 (i32_nlt.mpr g7))]
  rfl
theorem dC_no {p1 p2 p3 p4 : Int32} (h1 : c 0 3 = 0) (h2 : f_C_isDeclared c p1 = 0) (g : ¬ okDecl p1 p2 p3 p4) : f_C_declare c p1 p2 p3 p4 = (2, 0, c) := by
  rw [f_C_declare, if_pos h1, if_pos h2, isTask_eq]
  by_cases g1 : f_M_isTask p1 = 0
  · rw [if_pos g1]
  rw [if_neg g1]
  by_cases g2 : f_C_isIn p2 1 16 = 0
  · rw [if_pos g2]
  rw [if_neg g2]
  by_cases g3 : f_C_isIn p3 1 50 = 0
  · rw [if_pos g3]
  rw [if_neg g3]
  by_cases g4 : f_C_isIn p4 1 200 = 0
  · rw [if_pos g4]
  · exact absurd ⟨g1, fun q => g2 (isIn_no (Or.inl q)), fun q => g2 (isIn_no (Or.inr q)), fun q => g3 (isIn_no (Or.inl q)), fun q => g3 (isIn_no (Or.inr q)), fun q => g4 (isIn_no (Or.inl q)), i32_nlt.mp (fun q => g4 (isIn_no (Or.inr q)))⟩ g
theorem task_of {x : Int32} (h : ¬ f_M_isTask x = 0) : ∃ t, t < 8 ∧ x = nI t := vp_in_of (vi_mTask h) (by decide)
theorem rR_declare (h : rR n c m) {t : Nat} (ht : t < 8) {p2 p3 p4 : Int32} (hs : m 0 1 = 0) (h2 : ¬ p2 < 1) (h6 : ¬ p4 < 1) (h7 : p4 ≤ 200) : rR n (dW c t p2 p3 p4) (dV m t p2 p3 p4) := by
  obtain ⟨⟨hS, hT, hL, hQ, hD, hH, hU, hC, hE, hN⟩, hr⟩ := h
  have hz : ∀ t, t < 8 → m 4 t = 0 := by
    rcases hE with ⟨-, h0⟩ | ⟨h0, -⟩
    · exact h0
    · rw [hs] at h0; exact absurd h0 (by decide)
  have hp2 : 0 < p2 := by
    rw [i32_nlt, i32_le, show (1 : Int32).toInt = 1 from rfl] at h2
    rw [i32_lt, show (0 : Int32).toInt = 0 from rfl]; omega
  have hp4 : 0 < p4 := by
    rw [i32_nlt, i32_le, show (1 : Int32).toInt = 1 from rfl] at h6
    rw [i32_lt, show (0 : Int32).toInt = 0 from rfl]; omega
  have m4 : dV m t p2 p3 p4 4 = m 4 := by funext k; simp [dV, wr]
  have m8 : dV m t p2 p3 p4 8 = m 8 := by funext k; simp [dV, wr]
  have m9 : dV m t p2 p3 p4 9 = m 9 := by funext k; simp [dV, wr]
  have m10 : dV m t p2 p3 p4 10 = m 10 := by funext k; simp [dV, wr]
  have m11 : dV m t p2 p3 p4 11 = m 11 := by funext k; simp [dV, wr]
  have m12 : dV m t p2 p3 p4 12 = m 12 := by funext k; simp [dV, wr]
  have m0 : ∀ k, k ≠ 0 → dV m t p2 p3 p4 0 k = m 0 k := by intro k hk; simp [dV, wr, hk]
  have cT : ∀ j k, j < 5 ∨ 21 ≤ j → dW c t p2 p3 p4 j k = c j k := by
    intro j k hj
    have e : ¬ j = 5 + 2 * t := by omega
    simp [dW, wr, e]
  have cO : ∀ j k, 3 ≤ k → dW c t p2 p3 p4 j k = c j k := by
    intro j k hk
    have e0 : ¬ k = 0 := by omega
    have e1 : ¬ k = 1 := by omega
    have e2 : ¬ k = 2 := by omega
    simp [dW, wr, e0, e1, e2]
  have cL : ∀ i k, dW c t p2 p3 p4 (5 + 2 * i + 1) k = c (5 + 2 * i + 1) k := by
    intro i k
    have e : ¬ 5 + 2 * i + 1 = 5 + 2 * t := by omega
    simp only [dW, wr]
    rw [if_neg (fun q => e q.1), if_neg (fun q => e q.1), if_neg (fun q => e q.1)]
  have hlast : ∀ r b x, isLast (dV m t p2 p3 p4) r b x = isLast m r b x := by
    intro r b x
    unfold isLast
    rw [m9, m11]
  have other : ∀ i, i ≠ t → dW c t p2 p3 p4 (5 + 2 * i) 0 = c (5 + 2 * i) 0 ∧ dW c t p2 p3 p4 (5 + 2 * i) 1 = c (5 + 2 * i) 1 ∧ dW c t p2 p3 p4 (5 + 2 * i) 2 = c (5 + 2 * i) 2 := by
    intro i hi
    have e : ¬ 5 + 2 * i = 5 + 2 * t := by omega
    simp only [dW, wr]
    refine ⟨?_, ?_, ?_⟩ <;> rw [if_neg (fun q => e q.1), if_neg (fun q => e q.1), if_neg (fun q => e q.1)]
  have mo : ∀ i, i ≠ t → dV m t p2 p3 p4 1 i = m 1 i ∧ dV m t p2 p3 p4 2 i = m 2 i ∧ dV m t p2 p3 p4 3 i = m 3 i ∧ dV m t p2 p3 p4 5 i = m 5 i := by
    intro i hi
    simp [dV, wr, hi]
  have mt : dV m t p2 p3 p4 1 t = p2 ∧ dV m t p2 p3 p4 2 t = p3 ∧ dV m t p2 p3 p4 3 t = p4 ∧ dV m t p2 p3 p4 5 t = p2 := by simp [dV, wr]
  have ct : dW c t p2 p3 p4 (5 + 2 * t) 0 = p2 ∧ dW c t p2 p3 p4 (5 + 2 * t) 1 = p3 ∧ dW c t p2 p3 p4 (5 + 2 * t) 2 = p4 := by simp [dW, wr]
  have m67 : dV m t p2 p3 p4 6 = m 6 ∧ dV m t p2 p3 p4 7 = m 7 := ⟨by funext k; simp [dV, wr], by funext k; simp [dV, wr]⟩
  refine ⟨⟨?_, ?_, ?_, ?_, ?_, ?_, ?_, ?_, ?_, ?_⟩, ?_⟩
  · obtain ⟨a1, a2, a3, a4, a5⟩ := hS
    refine ⟨?_, ?_, ?_, ?_, ?_⟩
    · rw [cT _ _ (by omega), m0 _ (by decide), a1]
    · rw [cT _ _ (by omega), m0 _ (by decide), a2]
    · rw [cT _ _ (by omega), m0 _ (by decide), a3]
    · rw [cT _ _ (by omega), m0 _ (by decide), a4]
    · intro i
      rw [cT _ _ (by omega), m12, a5]
  · intro i hi
    rw [cO _ 8 (by omega), cO _ 9 (by omega), m67.1, m67.2]
    by_cases e : i = t
    · subst e
      exact ⟨by rw [ct.1, mt.1], by rw [ct.2.1, mt.2.1], by rw [ct.2.2, mt.2.2.1], (hT i hi).2.2.2.1, (hT i hi).2.2.2.2⟩
    · rw [(other i e).1, (other i e).2.1, (other i e).2.2, (mo i e).1, (mo i e).2.1, (mo i e).2.2.1]
      exact hT i hi
  · intro i k hi hk
    rw [cL, m8]
    exact hL i k hi hk
  · intro i hi
    rw [m4]
    rcases hQ i hi with ⟨q1, q2, q3⟩ | ⟨q1, q2, -⟩
    · refine Or.inl ⟨by rw [cO _ _ (by omega)]; exact q1, q2, ?_⟩
      by_cases e : i = t
      · subst e; rw [mt.1, mt.2.2.2]
      · rw [(mo i e).1, (mo i e).2.2.2]; exact q3
    · rw [hz i hi] at q2; exact absurd q2 (by decide)
  · intro i hi
    rw [m8]
    by_cases e : i = t
    · subst e
      refine Or.inr ⟨by rw [mt.1]; exact hp2, by rw [mt.2.2.1]; exact hp4, by rw [mt.2.2.1]; exact h7, fun k hk => ?_⟩
      rcases hD i hi with ⟨-, -, q⟩ | ⟨-, -, -, q⟩
      · rw [q k hk]; exact Int32.le_refl 0
      · exact q k hk
    · rw [(mo i e).1, (mo i e).2.2.1]
      exact hD i hi
  · intro k hk
    rw [cT _ _ (by omega), cT _ _ (by omega), cT _ _ (by omega), m9, m10, m11, m4, m0 15 (by decide), hlast]
    exact hH k hk
  · unfold rU
    rw [m9, m11]
    exact hU
  · intro i hi
    rw [hlast, m0 15 (by decide), cO _ _ (by omega)]
    exact hC i hi
  · exact Or.inl ⟨by rw [m0 1 (by decide)]; exact hs, fun i hi => by rw [m4]; exact hz i hi⟩
  · unfold rN
    rw [m0 2 (by decide), m0 3 (by decide), m0 15 (by decide), m0 16 (by decide)]
    exact hN
  · rw [cT _ _ (by omega), hr, runner_none hz, runner_none (fun i hi => by rw [m4]; exact hz i hi)]
theorem op_declare (h : rR n c m) (p1 p2 p3 p4 : Int32) : f_M_declare m p1 p2 p3 p4 0 0 = nI (f_C_declare c p1 p2 p3 p4).1 ∧ rR n (f_C_declare c p1 p2 p3 p4).2.2 (f_M_declare m p1 p2 p3 p4) := by
  have hdc := decl_eq h.1.2.1 h.1.2.2.2.2.1 p1
  have hse := h.1.1.1
  have key : ∀ x, ¬ m 0 1 = 0 ∨ ¬ f_M_isDeclared m p1 = 0 → f_M_declare_B48 m x p1 p2 p3 p4 = wr m 0 0 1 := by
    intro x hx
    have e : f_M_declare_B48 m x p1 p2 p3 p4 = f_M_declare_B66 m p1 p2 p3 p4 x := by
      rw [f_M_declare_B48]
      by_cases q : m 0 1 = 0
      · rw [if_pos q, if_neg (hx.resolve_left (fun z => z q))]
      · rw [if_neg q]
    rw [e, f_M_declare_B66, f_M_declare_B71, ref_1 i1ne, f_M_declare_S76, if_neg i1ne]
  by_cases q : ¬ m 0 1 = 0 ∨ ¬ f_M_isDeclared m p1 = 0
  · have e1 : f_M_declare m p1 p2 p3 p4 = wr m 0 0 1 := by
      by_cases g : okDecl p1 p2 p3 p4
      · rw [dM_ok g, key _ q]
      · rw [dM_no g, key _ q]
    have e2 : f_C_declare c p1 p2 p3 p4 = (1, 0, c) := by
      rw [f_C_declare, hse, hdc]
      by_cases q1 : m 0 1 = 0
      · rw [if_pos q1, if_neg (q.resolve_left (fun z => z q1))]
      · rw [if_neg q1]
    rw [e1, e2]
    exact ⟨wr_eq _ _ _ _, rR_thrown h 1⟩
  · have q1 : m 0 1 = 0 := Classical.byContradiction fun z => q (Or.inl z)
    have q2 : f_M_isDeclared m p1 = 0 := Classical.byContradiction fun z => q (Or.inr z)
    by_cases g : okDecl p1 p2 p3 p4
    · obtain ⟨t, ht, rfl⟩ := task_of g.1
      have e1 : f_M_declare m (nI t) p2 p3 p4 = dV m t p2 p3 p4 := by
        rw [dM_ok g, f_M_declare_B48, if_pos q1, if_pos q2, f_M_declare_B71, ref_ok, f_M_declare_S76, if_pos rfl, f_M_declare_S87, f_M_declare_S94, f_M_declare_S102, nI_clamp (by omega)]
        rfl
      rw [e1, dC_ok (hse.trans q1) (hdc.trans q2) g, nI_clamp (by omega)]
      exact ⟨by simp [dV, wr]; rfl, rR_declare h ht q1 g.2.1 g.2.2.2.2.2.1 g.2.2.2.2.2.2⟩
    · have e1 : f_M_declare m p1 p2 p3 p4 = wr m 0 0 2 := by
        rw [dM_no g, f_M_declare_B48, if_pos q1, if_pos q2, f_M_declare_B71, ref_2 i1ne, f_M_declare_S76, if_neg i1ne]
      rw [e1, dC_no (hse.trans q1) (hdc.trans q2) g]
      exact ⟨wr_eq _ _ _ _, rR_thrown h 2⟩
end ACT1
