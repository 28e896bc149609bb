section ACT4
variable {n : Nat} {c m : St}
/-- a taking, as both write it -/
def tkC (c : St) (r k : Nat) : St := wr (wr (wr (wr (wr c (21 + k) 1 (nI r)) (21 + k) 2 (c (5 + 2 * r) 7)) (21 + k) 3 (c (5 + 2 * r) 5)) (5 + 2 * r) 7 (nI k)) (5 + 2 * r) 5 (imax (c (5 + 2 * r) 5) (c (21 + k) 0))
def tkM (m : St) (r k : Nat) : St := wr (wr (wr (wr (wr (wr m 0 0 0) 0 15 (m 0 15 + 1)) 11 k (m 0 15 + 1)) 9 k (nI r)) 10 k (m 5 r)) 5 r (imax (m 5 r) (f_M_top m (nI k)))
theorem last_wide {r b b' x : Int32} (hb : b < b') (hall : ∀ j, j < 6 → m 9 j = r → m 11 j < b) (h : isLast m r b x) : isLast m r b' x := by
  rcases h with ⟨h1, h2⟩ | ⟨k, hk, h1, h2, h3, h4⟩
  · exact Or.inl ⟨h1, fun j hj e => absurd (hall j hj e) (h2 j hj e)⟩
  · exact Or.inr ⟨k, hk, h1, h2, i32_ltle h3 (by rw [i32_lt] at hb; rw [i32_le]; omega), fun j hj e _ => h4 j hj e (hall j hj e)⟩
theorem last_take {m' : St} {k : Nat} {r T : Int32} (h9 : ∀ j, m' 9 j = if j = k then r else m 9 j) (h11 : ∀ j, m' 11 j = if j = k then T else m 11 j) (hfree : m 9 k = (-1)) {q b x : Int32} (hq : ¬ q = (-1)) (hno : ¬ (r = q ∧ T < b)) (h : isLast m q b x) : isLast m' q b x := by
  rcases h with ⟨h1, h2⟩ | ⟨k2, hk, h1, h2, h3, h4⟩
  · refine Or.inl ⟨h1, fun j hj e => ?_⟩
    rw [h9] at e
    rw [h11]
    by_cases z : j = k
    · rw [if_pos z] at e ⊢
      exact fun w => hno ⟨e, w⟩
    · rw [if_neg z] at e ⊢
      exact h2 j hj e
  · have hz : ¬ k2 = k := fun z => hq (by rw [← h2, z]; exact hfree)
    refine Or.inr ⟨k2, hk, h1, by rw [h9, if_neg hz]; exact h2, by rw [h11, if_neg hz]; exact h3, fun j hj e w => ?_⟩
    rw [h9] at e
    rw [h11] at w
    rw [h11, h11, if_neg hz]
    by_cases z : j = k
    · rw [if_pos z] at e w
      exact absurd ⟨e, w⟩ hno
    · rw [if_neg z] at e w ⊢
      exact h4 j hj e w
theorem rW_take (h : rR n c m) (hn : n < 900) {r k : Nat} (hr8 : r < 8) (hk : k < 6) (hs : m 0 1 = 1) (hrun : f_M_runner m = nI r) (hrdy : 0 < m 4 r) (hfree : m 9 k = (-1)) : rW (n + 1) (2 * n) (tkC c r k) (tkM m r k) ∧ tkC c r k 0 6 = nI r := by
  obtain ⟨⟨hS, hT, hL, hQ, hD, hH, hU, hC, hE, hN⟩, hr⟩ := h
  obtain ⟨a, b, d, e, q1, q2, q3, q4, q5, q6, q7, q8⟩ := hN
  obtain ⟨g4, -, g1, g6, g5⟩ := (hQ r hr8).resolve_left (fun z => by rw [z.2.1] at hrdy; exact absurd hrdy (by decide))
  have m0 : ∀ i, i ≠ 0 → i ≠ 15 → tkM m r k 0 i = m 0 i := by intro i h1 h2; simp (disch := omega) only [tkM, wr_ne]
  have m015 : tkM m r k 0 15 = m 0 15 + 1 := by simp (disch := omega) only [tkM, wr_ne, wr_eq]
  have mr : ∀ j, j ≠ 0 → j ≠ 5 → j ≠ 9 → j ≠ 10 → j ≠ 11 → tkM m r k j = m j := by intro j h0 h4 h5 h6 h7; funext i; simp (disch := omega) only [tkM, wr_ne]
  have m9 : ∀ j, tkM m r k 9 j = if j = k then nI r else m 9 j := by
    intro j
    by_cases z : j = k
    · subst z; rw [if_pos rfl]; simp (disch := omega) only [tkM, wr_ne, wr_eq]
    · rw [if_neg z]; simp (disch := omega) only [tkM, wr_ne]
  have m11 : ∀ j, tkM m r k 11 j = if j = k then m 0 15 + 1 else m 11 j := by
    intro j
    by_cases z : j = k
    · subst z; rw [if_pos rfl]; simp (disch := omega) only [tkM, wr_ne, wr_eq]
    · rw [if_neg z]; simp (disch := omega) only [tkM, wr_ne]
  have m10 : ∀ j, tkM m r k 10 j = if j = k then m 5 r else m 10 j := by
    intro j
    by_cases z : j = k
    · subst z; rw [if_pos rfl]; simp (disch := omega) only [tkM, wr_ne, wr_eq]
    · rw [if_neg z]; simp (disch := omega) only [tkM, wr_ne]
  have m5r : tkM m r k 5 r = imax (m 5 r) (f_M_top m (nI k)) := by simp (disch := omega) only [tkM, wr_eq]
  have m5o : ∀ i, i ≠ r → tkM m r k 5 i = m 5 i := by intro i hi; simp (disch := omega) only [tkM, wr_ne]
  have cr : ∀ j i, j ≠ 21 + k → j ≠ 5 + 2 * r → tkC c r k j i = c j i := by intro j i h1 h2; simp (disch := omega) only [tkC, wr_ne]
  have cb : ∀ i, i ≠ 5 → i ≠ 7 → tkC c r k (5 + 2 * r) i = c (5 + 2 * r) i := by intro i h1 h2; simp (disch := omega) only [tkC, wr_ne]
  have c57 : tkC c r k (5 + 2 * r) 7 = nI k := by simp (disch := omega) only [tkC, wr_ne, wr_eq]
  have c55 : tkC c r k (5 + 2 * r) 5 = imax (c (5 + 2 * r) 5) (c (21 + k) 0) := by simp (disch := omega) only [tkC, wr_eq]
  have ck0 : tkC c r k (21 + k) 0 = c (21 + k) 0 := by simp (disch := omega) only [tkC, wr_ne]
  have ck1 : tkC c r k (21 + k) 1 = nI r := by simp (disch := omega) only [tkC, wr_ne, wr_eq]
  have ck2 : tkC c r k (21 + k) 2 = c (5 + 2 * r) 7 := by simp (disch := omega) only [tkC, wr_ne, wr_eq]
  have ck3 : tkC c r k (21 + k) 3 = c (5 + 2 * r) 5 := by simp (disch := omega) only [tkC, wr_ne, wr_eq]
  have e1 := mr 1 (by decide) (by decide) (by decide) (by decide) (by decide)
  have e2 := mr 2 (by decide) (by decide) (by decide) (by decide) (by decide)
  have e3 := mr 3 (by decide) (by decide) (by decide) (by decide) (by decide)
  have e4 := mr 4 (by decide) (by decide) (by decide) (by decide) (by decide)
  have e6 := mr 6 (by decide) (by decide) (by decide) (by decide) (by decide)
  have e7 := mr 7 (by decide) (by decide) (by decide) (by decide) (by decide)
  have e8 := mr 8 (by decide) (by decide) (by decide) (by decide) (by decide)
  have e12 := mr 12 (by decide) (by decide) (by decide) (by decide) (by decide)
  have hceil : ∀ k, k < 6 → c (21 + k) 0 = f_M_top m (nI k) := by
    rcases hE with ⟨z, -⟩ | ⟨-, z⟩
    · rw [hs] at z; exact absurd z (by decide)
    · exact z
  have hT0 : m 0 15 + 1 = nI (d + 1) := by rw [q5, nI_1]
  have hT1 : m 0 15 + 1 + 1 = nI (d + 2) := by rw [hT0, nI_1]
  have hlt : m 0 15 + 1 < m 0 15 + 1 + 1 := by rw [hT1, hT0]; exact nI_lt (by omega) (by omega)
  have hpos : (0 : Int32) < m 0 15 + 1 := by rw [hT0]; exact nI_lt (a := 0) (by omega) (by omega)
  have hne : ∀ i, i < 8 → ¬ nI i = (-1) := fun i hi => nI_neg (by omega)
  refine ⟨⟨?_, ?_, ?_, ?_, ?_, ?_, ?_, ?_, ?_, ?_⟩, ?_⟩
  · obtain ⟨a1, a2, a3, a4, a5⟩ := hS
    refine ⟨?_, ?_, ?_, ?_, fun i => ?_⟩
    · rw [cr _ _ (by omega) (by omega), m0 _ (by decide) (by decide), a1]
    · rw [cr _ _ (by omega) (by omega), m0 _ (by decide) (by decide), a2]
    · rw [cr _ _ (by omega) (by omega), m0 _ (by decide) (by decide), a3]
    · rw [cr _ _ (by omega) (by omega), m0 _ (by decide) (by decide), a4]
    · rw [cr _ _ (by omega) (by omega), e12, a5]
  · intro i hi
    rw [e1, e2, e3, e6, e7]
    by_cases z : i = r
    · subst z
      rw [cb 0 (by decide) (by decide), cb 1 (by decide) (by decide), cb 2 (by decide) (by decide), cb 8 (by decide) (by decide), cb 9 (by decide) (by decide)]
      exact hT i hi
    · rw [cr _ 0 (by omega) (by omega), cr _ 1 (by omega) (by omega), cr _ 2 (by omega) (by omega), cr _ 8 (by omega) (by omega), cr _ 9 (by omega) (by omega)]
      exact hT i hi
  · intro i j hi hj
    rw [cr _ _ (by omega) (by omega), e8]
    exact hL i j hi hj
  · intro i hi
    rw [e1, e4]
    by_cases z : i = r
    · subst z
      refine Or.inr ⟨by rw [cb 4 (by decide) (by decide)]; exact g4, hrdy, g1, by rw [cb 6 (by decide) (by decide)]; exact g6, ?_⟩
      rw [c55, m5r, g5, hceil k hk]
    · rw [cr _ 4 (by omega) (by omega), cr _ 6 (by omega) (by omega), cr _ 5 (by omega) (by omega), m5o i z]
      exact hQ i hi
  · intro i hi
    rw [e1, e3, e8]
    exact hD i hi
  · intro j hj
    rw [e4, m015]
    by_cases z : j = k
    · subst z
      rw [ck1, ck2, ck3, m9, m10, m11, if_pos rfl, if_pos rfl, if_pos rfl]
      refine ⟨rfl, Or.inr ⟨g5, hpos, hlt, ⟨r, hr8, rfl, hrdy⟩, ?_⟩⟩
      exact last_take m9 m11 hfree (hne r hr8) (fun w => absurd w.2 (by rw [i32_lt]; omega)) (hC r hr8)
    · rw [cr _ 1 (by omega) (by omega), cr _ 2 (by omega) (by omega), cr _ 3 (by omega) (by omega), m9, m10, m11, if_neg z, if_neg z, if_neg z]
      refine ⟨(hH j hj).1, ?_⟩
      rcases (hH j hj).2 with w | ⟨w1, w2, w3, w4, w5⟩
      · exact Or.inl w
      · refine Or.inr ⟨w1, w2, ?_, w4, ?_⟩
        · rw [i32_lt] at *
          omega
        · obtain ⟨i, hi, w6, -⟩ := w4
          refine last_take m9 m11 hfree (by rw [w6]; exact hne i hi) (fun w => ?_) w5
          have := w.2
          rw [i32_lt] at this w3
          omega
  · intro j j2 hj hj2 z1 z2 z3
    rw [m9] at z1 z2
    rw [m11, m11] at z3
    by_cases w1 : j = k
    · by_cases w2 : j2 = k
      · omega
      · rw [if_pos w1, if_neg w2] at z3
        rw [if_neg w2] at z2
        rcases (hH j2 hj2).2 with v | ⟨-, -, v, -⟩
        · exact absurd v z2
        · rw [← z3, i32_lt] at v; omega
    · by_cases w2 : j2 = k
      · rw [if_neg w1, if_pos w2] at z3
        rw [if_neg w1] at z1
        rcases (hH j hj).2 with v | ⟨-, -, v, -⟩
        · exact absurd v z1
        · rw [z3, i32_lt] at v; omega
      · rw [if_neg w1, if_neg w2] at z3
        rw [if_neg w1] at z1
        rw [if_neg w2] at z2
        exact hU j j2 hj hj2 z1 z2 z3
  · intro i hi
    rw [m015]
    by_cases z : i = r
    · subst z
      rw [c57]
      refine Or.inr ⟨k, hk, rfl, by rw [m9, if_pos rfl], by rw [m11, if_pos rfl]; exact hlt, fun j hj w _ => ?_⟩
      rw [m9] at w
      rw [m11, m11, if_pos rfl]
      by_cases v : j = k
      · rw [if_pos v]; exact Int32.le_refl _
      · rw [if_neg v] at w ⊢
        have u := held_lt hH hj hi w
        rw [i32_lt] at u
        rw [i32_le]
        omega
    · rw [cr _ _ (by omega) (by omega)]
      refine last_take m9 m11 hfree (hne i hi) (fun w => z (nI_inj (by omega) (by omega) w.1.symm)) ?_
      exact last_wide hlt (fun j hj w => held_lt hH hj hi w) (hC i hi)
  · refine Or.inr ⟨by rw [m0 1 (by decide) (by decide)]; exact hs, fun j hj => ?_⟩
    rw [top_congr e1 e8, ← hceil j hj]
    by_cases z : j = k
    · subst z; exact ck0
    · exact cr _ _ (by omega) (by omega)
  · exact ⟨a, b, d + 1, e, by rw [m0 2 (by decide) (by decide)]; exact q1, by omega, by rw [m0 3 (by decide) (by decide)]; exact q3, by omega, by rw [m015]; exact hT0, by omega, by rw [m0 16 (by decide) (by decide)]; exact q7, q8⟩
  · rw [cr _ _ (by omega) (by omega), hr, hrun]
theorem imax_alt (x y : Int32) : imax x y = if y ≤ x then x else y := by
  unfold imax
  by_cases h : y ≤ x
  · rw [if_pos h, if_neg (i32_nlt.mpr h)]
  · rw [if_neg h, if_pos (i32_nle2.mp h)]
theorem tkC_eq (c : St) {r k : Nat} (hr : r < 8) (hk : k < 6) : f_C_take_S91 (wr c (21 + k) 1 (nI r)) (nI k) r k = f_C_take_S127 (tkC c r k) (nI k) r := by
  unfold f_C_take_S91 f_C_take_S99 f_C_take_S107 f_C_take_S112 tkC
  simp (disch := omega) only [wr_ne, wr_eq]
theorem tkM_eq (m : St) {r k : Nat} (hr : r < 8) (hk : k < 6) : f_M_take_S111 (wr (wr m 0 0 0) 0 15 (wr m 0 0 0 0 15 + 1)) (nI k) (nI r) = f_M_take_S175 (tkM m r k) (nI k) (nI r) := by
  unfold f_M_take_S111 f_M_take_S121 f_M_take_S128 f_M_take_S140 f_M_take_B174 tkM
  rw [nI_clamp (n := r) (by omega), nI_clamp (n := k) (by omega), imax_alt]
  simp (disch := omega) only [wr_ne, wr_eq]
  rw [top_congr (m := m) (by rw [wr_cell (by decide), wr_cell (by decide), wr_cell (by decide), wr_cell (by decide), wr_cell (by decide)]) (by rw [wr_cell (by decide), wr_cell (by decide), wr_cell (by decide), wr_cell (by decide), wr_cell (by decide)])]
  split <;> rfl
theorem op_take (h : rR n c m) (hn : n < 900) (x : Int32) : (f_M_take m x).2 0 0 = nI (f_C_take c x).1 ∧ ((f_C_take c x).1 = 0 → (f_C_take c x).2.1 = (f_M_take m x).1) ∧ rR (n + 1) (f_C_take c x).2.2 (f_M_take m x).2 := by
  have hse := h.1.1.1
  have hrr := h.2
  have no1 : ∀ g, g = ((0 : Int32), wr m 0 0 1) → g.2 0 0 = nI 1 ∧ ((1 : Nat) = 0 → (0 : Int32) = g.1) ∧ rR (n + 1) c g.2 := by
    intro g hg
    rw [hg]
    exact ⟨(show wr m 0 0 1 0 0 = nI 1 from wr_eq _ _ _ _), fun _ => rfl, rR_succ (rR_thrown h 1)⟩
  have no2 : ∀ g, g = ((0 : Int32), wr m 0 0 2) → g.2 0 0 = nI 2 ∧ ((2 : Nat) = 0 → (0 : Int32) = g.1) ∧ rR (n + 1) c g.2 := by
    intro g hg
    rw [hg]
    exact ⟨(show wr m 0 0 2 0 0 = nI 2 from wr_eq _ _ _ _), fun _ => rfl, rR_succ (rR_thrown h 2)⟩
  have b78 : ∀ v4, f_M_take_B78 m x (f_M_runner m) v4 = (0, wr m 0 0 1) := by
    intro v4
    rw [f_M_take_B78, f_M_take_B83]
    split
    · rw [f_M_take_B93, ref_1 i1ne, f_M_take_S96, if_neg i1ne]
    · rw [f_M_take_B93, ref_1 i1ne, f_M_take_S96, if_neg i1ne]
  have b59 : ∀ x0 v3, m 0 1 = 0 ∨ f_M_runner m = (-1) ∨ ¬ v3 = 0 → f_M_take_B59 m x0 x (f_M_runner m) v3 = (0, wr m 0 0 1) := by
    intro x0 v3 hx
    rw [f_M_take_B59]
    by_cases z1 : m 0 1 = 0
    · rw [if_pos z1, b78]
    rw [if_neg z1]
    by_cases z2 : f_M_runner m = (-1)
    · rw [if_pos z2, b78]
    rw [if_neg z2, if_neg ((hx.resolve_left z1).resolve_left z2), b78]
  have b27 : ∀ v3, m 0 1 = 0 ∨ f_M_runner m = (-1) ∨ ¬ v3 = 0 → f_M_take_B27 m v3 x (f_M_runner m) = (0, wr m 0 0 1) := by
    intro v3 hx
    rw [f_M_take_B27, f_M_take_B58]
    rw [b59 _ _ hx, b59 _ _ hx]
    simp only [ite_self]
  have hM : m 0 1 = 0 ∨ f_M_runner m = (-1) → f_M_take m x = (0, wr m 0 0 1) := by
    intro hx
    rw [f_M_take, f_M_take_B26, b27 0 (by rcases hx with z | z <;> simp [z]), b27 1 (by rcases hx with z | z <;> simp [z])]
    simp only [ite_self]
  by_cases z1 : m 0 1 = 0
  · have eC : f_C_take c x = (1, 0, c) := by rw [f_C_take, hse, if_pos z1]
    rw [eC]
    exact no1 _ (hM (Or.inl z1))
  by_cases z2 : f_M_runner m = (-1)
  · have eC : f_C_take c x = (1, 0, c) := by rw [f_C_take, hse, if_neg z1, hrr, if_pos z2]
    rw [eC]
    exact no1 _ (hM (Or.inr z2))
  obtain ⟨r, hr8, hrun, hrdy⟩ := (runner_cases m).resolve_left z2
  have hs : m 0 1 = 1 := by
    rcases h.1.2.2.2.2.2.2.2.2.1 with ⟨z, -⟩ | ⟨z, -⟩
    · exact absurd z z1
    · exact z
  by_cases z3 : f_M_isThing x = 0
  · have hh : f_C_isHeld c x = 0 := by rw [f_C_isHeld, isThing_eq, if_pos z3]
    have eC : f_C_take c x = (2, 0, c) := by rw [f_C_take, hse, if_neg z1, hrr, if_neg z2, hh, if_pos rfl, isThing_eq, if_pos z3]
    rw [eC]
    refine no2 _ ?_
    rw [f_M_take, if_pos z3, f_M_take_B26, f_M_take_B27, if_pos z3, f_M_take_B58, f_M_take_B59, if_neg z1, if_neg z2, if_pos rfl, f_M_take_B83, if_pos rfl, f_M_take_B93, ref_2 i1ne, f_M_take_S96, if_neg i1ne]
  obtain ⟨k, hk, rfl⟩ := vp_in_of (vi_mThing z3) (by decide)
  have hck := (h.1.2.2.2.2.2.1 k hk).1
  by_cases z4 : m 9 k = (-1)
  · have hh : f_C_isHeld c (nI k) = 0 := by rw [f_C_isHeld, isThing_eq, if_neg z3, nI_clamp (by omega), hck, if_pos z4]
    have hu := user_eq h.1.2.2.1 hr8 hk
    have eM : f_M_take m (nI k) = f_M_take_B27 m 0 (nI k) (nI r) := by rw [f_M_take, if_neg z3, nI_clamp (by omega), if_pos z4, f_M_take_B26, hrun]
    by_cases z5 : m 8 (6 * r + k) ≤ 0
    · rw [if_pos z5] at hu
      have eC : f_C_take c (nI k) = (2, 0, c) := by rw [f_C_take, hse, if_neg z1, hrr, if_neg z2, hh, if_pos rfl, isThing_eq, if_neg z3, hrun, nI_clamp (n := r) (by omega), hu, if_pos rfl]
      rw [eC, eM]
      refine no2 _ ?_
      rw [f_M_take_B27, if_neg z3, if_neg (nI_neg (by omega)), six_clamp hr8 hk, if_pos z5, f_M_take_B58, f_M_take_B59, if_neg z1, if_neg (nI_neg (by omega)), if_pos rfl, f_M_take_B83, if_pos rfl, f_M_take_B93, ref_2 i1ne, f_M_take_S96, if_neg i1ne]
    · rw [if_neg z5] at hu
      have eC : f_C_take c (nI k) = f_C_take_S127 (tkC c r k) (nI k) r := by rw [f_C_take, hse, if_neg z1, hrr, if_neg z2, hh, if_pos rfl, isThing_eq, if_neg z3, hrun, nI_clamp (n := r) (by omega), hu, if_neg i1ne, nI_clamp (n := k) (by omega), tkC_eq c hr8 hk]
      have eN : f_M_take_B27 m 0 (nI k) (nI r) = f_M_take_S175 (tkM m r k) (nI k) (nI r) := by rw [f_M_take_B27, if_neg z3, if_neg (nI_neg (by omega)), six_clamp hr8 hk, if_neg z5, f_M_take_B59, if_neg z1, if_neg (nI_neg (by omega)), if_pos rfl, f_M_take_B83, if_neg i1ne, f_M_take_B93, ref_ok, f_M_take_S96, if_pos rfl, tkM_eq m hr8 hk]
      rw [eC, eM, eN]
      obtain ⟨w1, w2⟩ := rW_take h hn hr8 hk hs hrun hrdy z4
      rw [f_C_take_S127, f_C_take_S137, f_M_take_S175, f_M_take_S183, w2, nI_clamp (n := r) (by omega)]
      obtain ⟨v1, v2⟩ := tell_rel w1 (by omega) (by omega) 2 (nI r) (nI k) _ w2
      refine ⟨?_, fun _ => ?_, ⟨v1, v2⟩⟩
      · show f_M_tell _ _ _ _ _ 0 0 = nI 0
        rw [tell_00]
        show tkM m r k 0 0 = nI 0
        simp (disch := omega) only [tkM, wr_ne, wr_eq]
        rfl
      · rcases v1.2.2.2.1 r hr8 with ⟨-, y, -⟩ | ⟨-, -, -, -, y⟩
        · exfalso
          have e4 : f_M_tell (tkM m r k) 2 (nI r) (nI k) (nI r) 4 r = m 4 r := by
            have e5 : tkM m r k 4 = m 4 := by funext i; simp (disch := omega) only [tkM, wr_ne]
            unfold f_M_tell f_M_tell_S7 f_M_tell_B35
            split
            · rw [(add_4 _ _ _ _).1, e5]
            · split
              · rw [(add_4 _ _ _ _).1, (add_4 _ _ _ _).1, e5]
              · rw [(add_4 _ _ _ _).1, (add_4 _ _ _ _).1, e5]
          rw [e4] at y
          rw [y] at hrdy
          exact absurd hrdy (by decide)
        · exact y
  · have hh : f_C_isHeld c (nI k) = 1 := by rw [f_C_isHeld, isThing_eq, if_neg z3, nI_clamp (by omega), hck, if_neg z4]
    have eC : f_C_take c (nI k) = (1, 0, c) := by rw [f_C_take, hse, if_neg z1, hrr, if_neg z2, hh, if_neg i1ne]
    have eM : f_M_take m (nI k) = (0, wr m 0 0 1) := by rw [f_M_take, if_neg z3, nI_clamp (by omega), if_neg z4]; exact b27 1 (Or.inr (Or.inr i1ne))
    rw [eC]
    exact no1 _ eM
end ACT4
