section ACT5
variable {n : Nat} {c m : St}
def gvC (c : St) (r k : Nat) : St := wr (wr (wr c (5 + 2 * r) 7 (c (21 + k) 2)) (5 + 2 * r) 5 (c (21 + k) 3)) (21 + k) 1 (-1)
def gvM (m : St) (r k : Nat) : St := wr (wr (wr m 0 0 0) 9 k (-1)) 5 r (m 10 k)
theorem rW_give (h : rR n c m) {r k : Nat} (hr8 : r < 8) (hk : k < 6) (hs : ¬ m 0 1 = 0) (hrun : f_M_runner m = nI r) (hrdy : 0 < m 4 r) (hlast : f_M_latest m (nI r) = nI k) : rW (n + 1) (2 * n) (gvC c r k) (gvM m r k) ∧ gvC c r k 0 6 = nI r := by
  obtain ⟨⟨hS, hT, hL, hQ, hD, hH, hU, hC, hE, hN⟩, hr⟩ := h
  obtain ⟨a, b, d, e, q1, q2, q3, q4, q5, q6, q7, q8⟩ := hN
  obtain ⟨g4, -, g1, g6, g5⟩ := (hQ r hr8).resolve_left (fun z => by rw [z.2.1] at hrdy; exact absurd hrdy (by decide))
  have hne : ∀ i, i < 8 → ¬ nI i = (-1) := fun i hi => nI_neg (by omega)
  -- k is the last of r's
  obtain ⟨k9, kmax⟩ : m 9 k = nI r ∧ ∀ j, j < 6 → m 9 j = nI r → m 11 j ≤ m 11 k := by
    rcases latest_best m (nI r) with ⟨z, -⟩ | ⟨k2, hk2, z, z1, z2⟩
    · exact absurd (hlast.symm.trans z) (nI_neg (by omega))
    · have : k2 = k := nI_inj (by omega) (by omega) (z.symm.trans hlast)
      subst this
      exact ⟨z1, z2⟩
  obtain ⟨f3, f0, flt, -, fl⟩ := ((hH k hk).2).resolve_left (by rw [k9]; exact hne r hr8)
  rw [k9] at fl
  have klt : ∀ j, j < 6 → j ≠ k → m 9 j = nI r → m 11 j < m 11 k := fun j hj hjk w => i32_le_of (kmax j hj w) (fun z => hjk (hU j k hj hk (by rw [w]; exact hne r hr8) (by rw [k9]; exact hne r hr8) z))
  have m0 : ∀ i, i ≠ 0 → gvM m r k 0 i = m 0 i := by intro i h1; simp (disch := omega) only [gvM, wr_ne]
  have mr : ∀ j, j ≠ 0 → j ≠ 5 → j ≠ 9 → gvM m r k j = m j := by intro j h0 h4 h5; funext i; simp (disch := omega) only [gvM, wr_ne]
  have m9 : ∀ j, gvM m r k 9 j = if j = k then (-1) else m 9 j := by
    intro j
    by_cases z : j = k
    · subst z; rw [if_pos rfl]; simp (disch := omega) only [gvM, wr_ne, wr_eq]
    · rw [if_neg z]; simp (disch := omega) only [gvM, wr_ne]
  have m5r : gvM m r k 5 r = m 10 k := by simp (disch := omega) only [gvM, wr_eq]
  have m5o : ∀ i, i ≠ r → gvM m r k 5 i = m 5 i := by intro i hi; simp (disch := omega) only [gvM, wr_ne]
  have cr : ∀ j i, (j ≠ 21 + k ∨ i ≠ 1) → j ≠ 5 + 2 * r → gvC c r k j i = c j i := by intro j i h1 h2; simp (disch := omega) only [gvC, wr_ne]
  have cb : ∀ i, i ≠ 5 → i ≠ 7 → gvC c r k (5 + 2 * r) i = c (5 + 2 * r) i := by intro i h1 h2; simp (disch := omega) only [gvC, wr_ne]
  have c57 : gvC c r k (5 + 2 * r) 7 = c (21 + k) 2 := by simp (disch := omega) only [gvC, wr_ne, wr_eq]
  have c55 : gvC c r k (5 + 2 * r) 5 = c (21 + k) 3 := by simp (disch := omega) only [gvC, wr_ne, wr_eq]
  have ck1 : gvC c r k (21 + k) 1 = (-1) := by simp (disch := omega) only [gvC, wr_eq]
  have e1 := mr 1 (by decide) (by decide) (by decide)
  have e2 := mr 2 (by decide) (by decide) (by decide)
  have e3 := mr 3 (by decide) (by decide) (by decide)
  have e4 := mr 4 (by decide) (by decide) (by decide)
  have e6 := mr 6 (by decide) (by decide) (by decide)
  have e7 := mr 7 (by decide) (by decide) (by decide)
  have e8 := mr 8 (by decide) (by decide) (by decide)
  have e10 := mr 10 (by decide) (by decide) (by decide)
  have e11 := mr 11 (by decide) (by decide) (by decide)
  have e12 := mr 12 (by decide) (by decide) (by decide)
  -- things of others, and earlier ones of r, have the same last one as before
  have keep : ∀ q b x, ¬ q = (-1) → ¬ (q = nI r ∧ m 11 k < b) → isLast m q b x → isLast (gvM m r k) q b x := by
    intro q b x hq hno hl
    rcases hl with ⟨h1, h2⟩ | ⟨k2, hk2, h1, h2, h3, h4⟩
    · refine Or.inl ⟨h1, fun j hj w => ?_⟩
      rw [m9] at w
      rw [e11]
      by_cases z : j = k
      · rw [if_pos z] at w; exact absurd w.symm hq
      · rw [if_neg z] at w; exact h2 j hj w
    · have hz : ¬ k2 = k := fun z => hno ⟨by rw [← h2, z]; exact k9, by rw [← z]; exact h3⟩
      refine Or.inr ⟨k2, hk2, h1, by rw [m9, if_neg hz]; exact h2, by rw [e11]; exact h3, fun j hj w v => ?_⟩
      rw [m9] at w
      rw [e11] at v ⊢
      by_cases z : j = k
      · rw [if_pos z] at w; exact absurd w.symm hq
      · rw [if_neg z] at w; exact h4 j hj w v
  refine ⟨⟨?_, ?_, ?_, ?_, ?_, ?_, ?_, ?_, ?_, ?_⟩, ?_⟩
  · obtain ⟨a1, a2, a3, a4, a5⟩ := hS
    refine ⟨?_, ?_, ?_, ?_, fun i => ?_⟩
    · rw [cr _ _ (by omega) (by omega), m0 _ (by decide), a1]
    · rw [cr _ _ (by omega) (by omega), m0 _ (by decide), a2]
    · rw [cr _ _ (by omega) (by omega), m0 _ (by decide), a3]
    · rw [cr _ _ (by omega) (by omega), m0 _ (by decide), a4]
    · rw [cr _ _ (by omega) (by omega), e12, a5]
  · intro i hi
    rw [e1, e2, e3, e6, e7]
    by_cases z : i = r
    · subst z
      rw [cb 0 (by decide) (by decide), cb 1 (by decide) (by decide), cb 2 (by decide) (by decide), cb 8 (by decide) (by decide), cb 9 (by decide) (by decide)]
      exact hT i hi
    · rw [cr _ 0 (by omega) (by omega), cr _ 1 (by omega) (by omega), cr _ 2 (by omega) (by omega), cr _ 8 (by omega) (by omega), cr _ 9 (by omega) (by omega)]
      exact hT i hi
  · intro i j hi hj
    rw [cr _ _ (by omega) (by omega), e8]
    exact hL i j hi hj
  · intro i hi
    rw [e1, e4]
    by_cases z : i = r
    · subst z
      exact Or.inr ⟨by rw [cb 4 (by decide) (by decide)]; exact g4, hrdy, g1, by rw [cb 6 (by decide) (by decide)]; exact g6, by rw [c55, m5r]; exact f3⟩
    · rw [cr _ 4 (by omega) (by omega), cr _ 6 (by omega) (by omega), cr _ 5 (by omega) (by omega), m5o i z]
      exact hQ i hi
  · intro i hi
    rw [e1, e3, e8]
    exact hD i hi
  · intro j hj
    rw [e4, e10, e11, m0 15 (by decide)]
    by_cases z : j = k
    · subst z
      rw [ck1, m9, if_pos rfl]
      exact ⟨rfl, Or.inl rfl⟩
    · rw [cr _ 1 (by omega) (by omega), cr _ 2 (by omega) (by omega), cr _ 3 (by omega) (by omega), m9, if_neg z]
      refine ⟨(hH j hj).1, ?_⟩
      rcases (hH j hj).2 with w | ⟨w1, w2, w3, w4, w5⟩
      · exact Or.inl w
      · refine Or.inr ⟨w1, w2, w3, w4, ?_⟩
        obtain ⟨i, hi, w6, -⟩ := w4
        refine keep _ _ _ (by rw [w6]; exact hne i hi) (fun w => ?_) w5
        have v := klt j hj z w.1
        have u := w.2
        rw [i32_lt] at v u
        omega
  · intro j j2 hj hj2 z1 z2 z3
    rw [m9] at z1 z2
    rw [e11] at z3
    by_cases w1 : j = k
    · rw [if_pos w1] at z1; exact absurd rfl z1
    · by_cases w2 : j2 = k
      · rw [if_pos w2] at z2; exact absurd rfl z2
      · rw [if_neg w1] at z1
        rw [if_neg w2] at z2
        exact hU j j2 hj hj2 z1 z2 z3
  · intro i hi
    rw [m0 15 (by decide)]
    by_cases z : i = r
    · subst z
      rw [c57]
      rcases fl with ⟨h1, h2⟩ | ⟨k2, hk2, h1, h2, h3, h4⟩
      · refine Or.inl ⟨h1, fun j hj w => ?_⟩
        rw [m9] at w
        by_cases v : j = k
        · rw [if_pos v] at w; exact absurd w.symm (hne i hi)
        · rw [if_neg v] at w
          exact absurd (klt j hj v w) (h2 j hj w)
      · have hz : ¬ k2 = k := fun v => by rw [v, i32_lt] at h3; omega
        refine Or.inr ⟨k2, hk2, h1, by rw [m9, if_neg hz]; exact h2, by rw [e11]; exact held_lt hH hk2 hi h2, fun j hj w v => ?_⟩
        rw [m9] at w
        rw [e11]
        by_cases u : j = k
        · rw [if_pos u] at w; exact absurd w.symm (hne i hi)
        · rw [if_neg u] at w
          exact h4 j hj w (klt j hj u w)
    · rw [cr _ _ (by omega) (by omega)]
      exact keep _ _ _ (hne i hi) (fun w => z (nI_inj (by omega) (by omega) w.1)) (hC i hi)
  · rcases hE with ⟨z, -⟩ | ⟨z1, z2⟩
    · exact absurd z hs
    · exact Or.inr ⟨by rw [m0 1 (by decide)]; exact z1, fun j hj => by rw [cr _ _ (by omega) (by omega), top_congr e1 e8]; exact z2 j hj⟩
  · exact ⟨a, b, d, e, by rw [m0 2 (by decide)]; exact q1, by omega, by rw [m0 3 (by decide)]; exact q3, by omega, by rw [m0 15 (by decide)]; exact q5, by omega, by rw [m0 16 (by decide)]; exact q7, q8⟩
  · rw [cr _ _ (by omega) (by omega), hr, hrun]
theorem tell_4 (m : St) (w t k r : Int32) : f_M_tell m w t k r 4 = m 4 := by
  unfold f_M_tell f_M_tell_S7 f_M_tell_B35
  split
  · exact (add_4 _ _ _ _).1
  · split
    · rw [(add_4 _ _ _ _).1, (add_4 _ _ _ _).1]
    · rw [(add_4 _ _ _ _).1, (add_4 _ _ _ _).1]
theorem run_sealed (h : rR n c m) (z : ¬ f_M_runner m = (-1)) : ¬ m 0 1 = 0 := by
  intro q
  rcases h.1.2.2.2.2.2.2.2.2.1 with ⟨-, w⟩ | ⟨w, -⟩
  · exact z (runner_none w)
  · rw [q] at w; exact absurd w (by decide)
theorem op_give (h : rR n c m) (hn : n < 900) (x : Int32) : (f_M_give m x).2 0 0 = nI (f_C_give c x).1 ∧ ((f_C_give c x).1 = 0 → (f_C_give c x).2.1 = (f_M_give m x).1) ∧ rR (n + 1) (f_C_give c x).2.2 (f_M_give m x).2 := by
  have hrr := h.2
  rw [f_C_give, hrr, f_M_give]
  by_cases z2 : f_M_runner m = (-1)
  · rw [if_pos z2, if_pos z2, f_M_give_B16, if_pos z2, f_M_give_B39, f_M_give_B44, ref_1 i1ne, f_M_give_S47, if_neg i1ne]
    exact ⟨(show wr m 0 0 1 0 0 = nI 1 from wr_eq _ _ _ _), fun _ => rfl, rR_succ (rR_thrown h 1)⟩
  have hsl := run_sealed h z2
  rw [if_neg z2, if_neg z2]
  obtain ⟨r, hr8, hrun, hrdy⟩ := (runner_cases m).resolve_left z2
  have hl := last_eq h.1.2.2.2.2.2.1 h.1.2.2.2.2.2.2.1 h.1.2.2.2.2.2.2.2.1 hr8
  have no2 : f_M_give_B39 m 0 x (nI r) = (0, wr m 0 0 2) := by
    rw [f_M_give_B39, f_M_give_B44, ref_2 i1ne, f_M_give_S47, if_neg i1ne]
  have two : (wr m 0 0 2) 0 0 = nI 2 ∧ ((2 : Nat) = 0 → (0 : Int32) = 0) ∧ rR (n + 1) c (wr m 0 0 2) := ⟨wr_eq _ _ _ _, fun _ => rfl, rR_succ (rR_thrown h 2)⟩
  rw [hrun, nI_clamp (n := r) (by omega), isThing_eq, hl, f_M_give_B16, if_neg (nI_neg (by omega))]
  rcases latest_best m (nI r) with ⟨y1, -⟩ | ⟨k, hk, y1, -⟩
  · rw [y1, if_pos rfl, no2]
    by_cases z3 : f_M_isThing x = 0
    · rw [if_pos z3]; exact two
    · rw [if_neg z3]
      obtain ⟨j, hj, rfl⟩ := vp_in_of (vi_mThing z3) (by decide)
      rw [if_neg (fun w => nI_neg (by omega) w.symm)]
      exact two
  · rw [y1, if_neg (nI_neg (by omega))]
    by_cases z4 : nI k = x
    · subst z4
      have z3 : ¬ f_M_isThing (nI k) = 0 := by
        unfold f_M_isThing
        rw [if_neg (nI_pos (by omega)), if_neg (nlt_6 hk)]
        decide
      rw [if_neg z3, if_pos rfl, if_pos rfl, nI_clamp (n := k) (by omega), f_M_give_B44, ref_ok, f_M_give_S47, if_pos rfl]
      have eC : f_C_give_S76 (wr c (5 + 2 * r) 7 (c (21 + k) 2)) (nI k) r k = f_C_give_S89 (gvC c r k) (nI k) r := by
        unfold f_C_give_S76 f_C_give_S84 gvC
        simp (disch := omega) only [wr_ne]
      have eM : f_M_give_S59 (wr (wr m 0 0 0) 9 (nI k).toNatClampNeg (-1)) (nI k) (nI r) = f_M_give_S71 (gvM m r k) (nI k) (nI r) := by
        unfold f_M_give_S59 gvM
        rw [nI_clamp (n := k) (by omega), nI_clamp (n := r) (by omega)]
        simp (disch := omega) only [wr_ne]
      obtain ⟨w1, w2⟩ := rW_give h hr8 hk hsl hrun hrdy y1
      rw [eC, eM, f_C_give_S89, f_C_give_S99, f_M_give_S71, f_M_give_S79, w2, nI_clamp (n := r) (by omega)]
      obtain ⟨v1, v2⟩ := tell_rel w1 (by omega) (by omega) 3 (nI r) (nI k) _ w2
      refine ⟨?_, fun _ => ?_, ⟨v1, v2⟩⟩
      · show f_M_tell _ _ _ _ _ 0 0 = nI 0
        rw [tell_00]
        show gvM m r k 0 0 = nI 0
        simp (disch := omega) only [gvM, wr_ne, wr_eq]
        rfl
      · rcases v1.2.2.2.1 r hr8 with ⟨-, y, -⟩ | ⟨-, -, -, -, y⟩
        · exfalso
          have e5 : gvM m r k 4 = m 4 := by funext i; simp (disch := omega) only [gvM, wr_ne]
          rw [tell_4, e5] at y
          rw [y] at hrdy
          exact absurd hrdy (by decide)
        · exact y
    · rw [if_neg z4, if_neg z4, no2]
      split <;> exact two
def fnC (c : St) (r : Nat) : St := wr c (5 + 2 * r) 4 0
def fnM (m : St) (r : Nat) : St := wr (wr (wr m 0 0 0) 4 r 0) 5 r (m 1 r)
theorem rW_finish (h : rR n c m) {r : Nat} (hr8 : r < 8) (hs : ¬ m 0 1 = 0) (hrun : f_M_runner m = nI r) (hlast : f_M_latest m (nI r) = (-1)) : rW (n + 1) (2 * n) (fnC c r) (fnM m r) ∧ fnC c r 0 6 = nI r := by
  obtain ⟨⟨hS, hT, hL, hQ, hD, hH, hU, hC, hE, hN⟩, hr⟩ := h
  obtain ⟨a, b, d, e, q1, q2, q3, q4, q5, q6, q7, q8⟩ := hN
  have none9 : ∀ j, j < 6 → ¬ m 9 j = nI r := by
    rcases latest_best m (nI r) with ⟨-, z⟩ | ⟨k2, hk2, z, -⟩
    · exact z
    · exact absurd (z.symm.trans hlast) (nI_neg (by omega))
  have m0 : ∀ i, i ≠ 0 → fnM m r 0 i = m 0 i := by intro i h1; simp (disch := omega) only [fnM, wr_ne]
  have mr : ∀ j, j ≠ 0 → j ≠ 4 → j ≠ 5 → fnM m r j = m j := by intro j h0 h4 h5; funext i; simp (disch := omega) only [fnM, wr_ne]
  have mt : fnM m r 4 r = 0 ∧ fnM m r 5 r = m 1 r := ⟨by simp (disch := omega) only [fnM, wr_ne, wr_eq], by simp (disch := omega) only [fnM, wr_eq]⟩
  have mo : ∀ i, i ≠ r → fnM m r 4 i = m 4 i ∧ fnM m r 5 i = m 5 i := by intro i hi; exact ⟨by simp (disch := omega) only [fnM, wr_ne], by simp (disch := omega) only [fnM, wr_ne]⟩
  have cr : ∀ j i, (j ≠ 5 + 2 * r ∨ i ≠ 4) → fnC c r j i = c j i := by intro j i h1; simp (disch := omega) only [fnC, wr_ne]
  have c4 : fnC c r (5 + 2 * r) 4 = 0 := wr_eq _ _ _ _
  have e1 := mr 1 (by decide) (by decide) (by decide)
  have e2 := mr 2 (by decide) (by decide) (by decide)
  have e3 := mr 3 (by decide) (by decide) (by decide)
  have e6 := mr 6 (by decide) (by decide) (by decide)
  have e7 := mr 7 (by decide) (by decide) (by decide)
  have e8 := mr 8 (by decide) (by decide) (by decide)
  have e9 := mr 9 (by decide) (by decide) (by decide)
  have e10 := mr 10 (by decide) (by decide) (by decide)
  have e11 := mr 11 (by decide) (by decide) (by decide)
  have e12 := mr 12 (by decide) (by decide) (by decide)
  have hlst : ∀ r' b y, isLast (fnM m r) r' b y = isLast m r' b y := by
    intro r' b y
    unfold isLast
    rw [e9, e11]
  refine ⟨⟨?_, ?_, ?_, ?_, ?_, ?_, ?_, ?_, ?_, ?_⟩, ?_⟩
  · obtain ⟨a1, a2, a3, a4, a5⟩ := hS
    refine ⟨?_, ?_, ?_, ?_, fun i => ?_⟩
    · rw [cr _ _ (by omega), m0 _ (by decide), a1]
    · rw [cr _ _ (by omega), m0 _ (by decide), a2]
    · rw [cr _ _ (by omega), m0 _ (by decide), a3]
    · rw [cr _ _ (by omega), m0 _ (by decide), a4]
    · rw [cr _ _ (by omega), e12, a5]
  · intro i hi
    rw [e1, e2, e3, e6, e7, cr _ 0 (by omega), cr _ 1 (by omega), cr _ 2 (by omega), cr _ 8 (by omega), cr _ 9 (by omega)]
    exact hT i hi
  · intro i j hi hj
    rw [cr _ _ (by omega), e8]
    exact hL i j hi hj
  · intro i hi
    rw [e1]
    by_cases z : i = r
    · subst z
      exact Or.inl ⟨c4, mt.1, mt.2⟩
    · rw [cr _ 4 (by omega), cr _ 6 (by omega), cr _ 5 (by omega), (mo i z).1, (mo i z).2]
      exact hQ i hi
  · intro i hi
    rw [e1, e3, e8]
    exact hD i hi
  · intro j hj
    rw [e9, e10, e11, m0 15 (by decide), cr _ 1 (by omega), cr _ 2 (by omega), cr _ 3 (by omega), hlst]
    refine ⟨(hH j hj).1, ?_⟩
    rcases (hH j hj).2 with w | ⟨w1, w2, w3, ⟨i, hi, w6, w7⟩, w5⟩
    · exact Or.inl w
    · have hi' : i ≠ r := fun z => none9 j hj (by rw [w6, z])
      exact Or.inr ⟨w1, w2, w3, ⟨i, hi, w6, by rw [(mo i hi').1]; exact w7⟩, w5⟩
  · unfold rU
    rw [e9, e11]
    exact hU
  · intro i hi
    rw [hlst, m0 15 (by decide), cr _ _ (by omega)]
    exact hC i hi
  · rcases hE with ⟨z, -⟩ | ⟨z1, z2⟩
    · exact absurd z hs
    · exact Or.inr ⟨by rw [m0 1 (by decide)]; exact z1, fun j hj => by rw [cr _ _ (by omega), top_congr e1 e8]; exact z2 j hj⟩
  · exact ⟨a, b, d, e, by rw [m0 2 (by decide)]; exact q1, by omega, by rw [m0 3 (by decide)]; exact q3, by omega, by rw [m0 15 (by decide)]; exact q5, by omega, by rw [m0 16 (by decide)]; exact q7, q8⟩
  · rw [cr _ _ (by omega), hr, hrun]
theorem op_finish (h : rR n c m) (hn : n < 900) : (f_M_finish m).2 0 0 = nI (f_C_finish c).1 ∧ ((f_C_finish c).1 = 0 → (f_C_finish c).2.1 = (f_M_finish m).1) ∧ rR (n + 1) (f_C_finish c).2.2 (f_M_finish m).2 := by
  have hrr := h.2
  have b20 : ∀ r, f_M_finish_B20 m r = (0, wr m 0 0 1) := by
    intro r
    rw [f_M_finish_B20, f_M_finish_B25, ref_1 i1ne, f_M_finish_S29, if_neg i1ne]
  have one : (wr m 0 0 1) 0 0 = nI 1 ∧ ((1 : Nat) = 0 → (0 : Int32) = 0) ∧ rR (n + 1) c (wr m 0 0 1) := ⟨wr_eq _ _ _ _, fun _ => rfl, rR_succ (rR_thrown h 1)⟩
  rw [f_C_finish, hrr, f_M_finish, b20]
  by_cases z2 : f_M_runner m = (-1)
  · rw [if_pos z2, if_pos z2]
    exact one
  have hsl := run_sealed h z2
  rw [if_neg z2, if_neg z2]
  obtain ⟨r, hr8, hrun, hrdy⟩ := (runner_cases m).resolve_left z2
  have hl := last_eq h.1.2.2.2.2.2.1 h.1.2.2.2.2.2.2.1 h.1.2.2.2.2.2.2.2.1 hr8
  rw [hrun, nI_clamp (n := r) (by omega), hl]
  by_cases z3 : f_M_latest m (nI r) = (-1)
  · rw [if_pos z3, if_pos z3, f_M_finish_B25, ref_ok, f_M_finish_S29, if_pos rfl]
    have eM : f_M_finish_S41 (wr (wr m 0 0 0) 4 (nI r).toNatClampNeg 0) (nI r) = f_M_finish_S53 (fnM m r) (nI r) := by
      unfold f_M_finish_S41 fnM
      rw [nI_clamp (n := r) (by omega)]
      simp (disch := omega) only [wr_ne]
    obtain ⟨w1, w2⟩ := rW_finish h hr8 hsl hrun z3
    rw [eM, show wr c (5 + 2 * r) 4 0 = fnC c r from rfl, f_C_finish_S49, f_C_finish_S60, f_M_finish_S53, f_M_finish_S62, w2, nI_clamp (n := r) (by omega)]
    obtain ⟨v1, v2⟩ := tell_rel w1 (by omega) (by omega) 4 (nI r) 15 _ w2
    refine ⟨?_, fun _ => (v1.2.1 r hr8).2.2.2.1, ⟨v1, v2⟩⟩
    show f_M_tell _ _ _ _ _ 0 0 = nI 0
    rw [tell_00]
    show fnM m r 0 0 = nI 0
    simp (disch := omega) only [fnM, wr_ne, wr_eq]
    rfl
  · rw [if_neg z3, if_neg z3]
    exact one
end ACT5
