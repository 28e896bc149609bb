-- the relation between the class's state c and the reference's state m; answers of reading calls are the same
def rS (c m : St) : Prop := c 0 3 = m 0 1 ∧ c 0 4 = m 0 2 ∧ c 0 5 = m 0 3 ∧ c 3 1 = m 0 16 ∧ ∀ i, c 4 i = m 12 i
def rT (c m : St) : Prop := ∀ t, t < 8 → c (5 + 2 * t) 0 = m 1 t ∧ c (5 + 2 * t) 1 = m 2 t ∧ c (5 + 2 * t) 2 = m 3 t ∧ c (5 + 2 * t) 8 = m 6 t ∧ c (5 + 2 * t) 9 = m 7 t
def rL (c m : St) : Prop := ∀ t k, t < 8 → k < 6 → c (5 + 2 * t + 1) k = m 8 (6 * t + k)
def rQ (c m : St) : Prop := ∀ t, t < 8 → (c (5 + 2 * t) 4 = 0 ∧ m 4 t = 0 ∧ m 5 t = m 1 t) ∨ (c (5 + 2 * t) 4 = 1 ∧ 0 < m 4 t ∧ 0 < m 1 t ∧ c (5 + 2 * t) 6 = m 4 t ∧ c (5 + 2 * t) 5 = m 5 t)
def rD (m : St) : Prop := ∀ t, t < 8 → (m 1 t = 0 ∧ m 3 t = 0 ∧ ∀ k, k < 6 → m 8 (6 * t + k) = 0) ∨ (0 < m 1 t ∧ 0 < m 3 t ∧ m 3 t ≤ 200 ∧ ∀ k, k < 6 → 0 ≤ m 8 (6 * t + k))
/-- x is the last taken, before the number b, of the things that r holds -/
def isLast (m : St) (r b x : Int32) : Prop := (x = (-1) ∧ ∀ j, j < 6 → m 9 j = r → ¬ m 11 j < b) ∨ ∃ k, k < 6 ∧ x = nI k ∧ m 9 k = r ∧ m 11 k < b ∧ ∀ j, j < 6 → m 9 j = r → m 11 j < b → m 11 j ≤ m 11 k
def rH (c m : St) : Prop := ∀ k, k < 6 → c (21 + k) 1 = m 9 k ∧ (m 9 k = (-1) ∨ (c (21 + k) 3 = m 10 k ∧ 0 < m 11 k ∧ m 11 k < m 0 15 + 1 ∧ (∃ t, t < 8 ∧ m 9 k = nI t ∧ 0 < m 4 t) ∧ isLast m (m 9 k) (m 11 k) (c (21 + k) 2)))
def rU (m : St) : Prop := ∀ j k, j < 6 → k < 6 → ¬ m 9 j = (-1) → ¬ m 9 k = (-1) → m 11 j = m 11 k → j = k
def rC (c m : St) : Prop := ∀ t, t < 8 → isLast m (nI t) (m 0 15 + 1) (c (5 + 2 * t) 7)
def rE (c m : St) : Prop := (m 0 1 = 0 ∧ ∀ t, t < 8 → m 4 t = 0) ∨ (m 0 1 = 1 ∧ ∀ k, k < 6 → c (21 + k) 0 = f_M_top m (nI k))
def rN (n B : Nat) (m : St) : Prop := ∃ a b d e : Nat, m 0 2 = nI a ∧ a ≤ 100 * n ∧ m 0 3 = nI b ∧ b ≤ n ∧ m 0 15 = nI d ∧ d ≤ n ∧ m 0 16 = nI e ∧ e ≤ B
/-- all but who runs -/
def rW (n B : Nat) (c m : St) : Prop := rS c m ∧ rT c m ∧ rL c m ∧ rQ c m ∧ rD m ∧ rH c m ∧ rU m ∧ rC c m ∧ rE c m ∧ rN n B m
def rR (n : Nat) (c m : St) : Prop := rW n (2 * n) c m ∧ c 0 6 = f_M_runner m
theorem i32_nle {x : Int32} (h : 0 < x) : ¬ x ≤ 0 := by
  rw [i32_lt, show (0 : Int32).toInt = 0 from rfl] at h
  rw [i32_le, show (0 : Int32).toInt = 0 from rfl]
  omega
theorem i32_nlt {x y : Int32} : ¬ x < y ↔ y ≤ x := by
  rw [i32_lt, i32_le]
  omega
theorem i32_nle2 {x y : Int32} : ¬ x ≤ y ↔ y < x := by
  rw [i32_lt, i32_le]
  omega
theorem i32_anti {x y : Int32} (h1 : x ≤ y) (h2 : y ≤ x) : x = y := by
  rw [i32_le] at h1 h2
  exact Int32.toInt_inj.mp (by omega)
theorem nI_inj {i j : Nat} (hi : i < 1000) (hj : j < 1000) (h : nI i = nI j) : i = j := (nI_eq (by omega) (by omega)).mp h
theorem nI_neg {i : Nat} (hi : i < 1000) : ¬ nI i = (-1) := fun h => by
  have h1 := nI_toInt (n := i) (by omega)
  rw [h, show (-1 : Int32).toInt = -1 from rfl] at h1
  omega
theorem isTask_eq (x : Int32) : f_C_isIn x 0 7 = f_M_isTask x := by
  have h : (7 < x) ↔ (8 ≤ x) := by
    rw [i32_lt, i32_le, show (7 : Int32).toInt = 7 from rfl, show (8 : Int32).toInt = 8 from rfl]
    omega
  unfold f_C_isIn f_M_isTask
  simp only [h]
theorem isThing_eq (x : Int32) : f_C_isThing x = f_M_isThing x := by
  have h : (5 < x) ↔ (6 ≤ x) := by
    rw [i32_lt, i32_le, show (5 : Int32).toInt = 5 from rfl, show (6 : Int32).toInt = 6 from rfl]
    omega
  unfold f_C_isThing f_C_isIn f_M_isThing
  simp only [h]
section REL
variable {c m : St}
theorem tdecl_eq (hT : rT c m) (hD : rD m) {t : Nat} (ht : t < 8) : f_T_isDeclared c t = if m 1 t ≤ 0 then 0 else 1 := by
  unfold f_T_isDeclared
  rw [(hT t ht).2.2.1]
  rcases hD t ht with ⟨h1, h3, -⟩ | ⟨h1, h3, -, -⟩
  · rw [h1, h3]
  · rw [if_neg (i32_nle h3), if_neg (i32_nle h1)]
theorem decl_eq (hT : rT c m) (hD : rD m) (x : Int32) : f_C_isDeclared c x = f_M_isDeclared m x := by
  unfold f_C_isDeclared f_M_isDeclared
  rw [isTask_eq]
  by_cases h0 : f_M_isTask x = 0
  · rw [if_pos h0, if_pos h0]
  · rw [if_neg h0, if_neg h0]
    obtain ⟨t, ht, rfl⟩ := vp_in_of (vi_mTask h0) (by decide)
    rw [nI_clamp (by omega), tdecl_eq hT hD ht]
    by_cases h1 : m 1 t ≤ 0
    · rw [if_pos h1]; rfl
    · rw [if_neg h1]; rfl
theorem ready_eq (hQ : rQ c m) (x : Int32) : f_C_isReady c x = f_M_isReady m x := by
  unfold f_C_isReady f_M_isReady
  rw [isTask_eq]
  by_cases h0 : f_M_isTask x = 0
  · rw [if_pos h0, if_pos h0]
  · rw [if_neg h0, if_neg h0]
    obtain ⟨t, ht, rfl⟩ := vp_in_of (vi_mTask h0) (by decide)
    rw [nI_clamp (by omega)]
    rcases hQ t ht with ⟨h1, h2, -⟩ | ⟨h1, h2, -⟩
    · rw [h1, h2]; rfl
    · rw [h1, if_neg (by decide), if_neg (i32_nle h2)]
theorem count_eq (hT : rT c m) (hD : rD m) : ∀ (n i : Nat) (v : Int32), i + n = 8 → f_M_seal_L23 n i m v = (f_C_countDeclared_L4 n i c v, m) := by
  intro n
  induction n with
  | zero => intro i v _; rw [f_M_seal_L23, f_C_countDeclared_L4]
  | succ n ih =>
    intro i v hi
    rw [f_M_seal_L23, f_C_countDeclared_L4, tdecl_eq hT hD (by omega), Int32.add_zero, ih _ _ (by omega), ih _ _ (by omega)]
    by_cases h1 : m 1 i ≤ 0
    · rw [if_pos h1, if_pos h1]; rfl
    · rw [if_neg h1, if_neg h1]; rfl
theorem first_eq (hQ : rQ c m) {i j : Nat} (hi : i < 8) (hj : j < 8) (ri : ¬ c (5 + 2 * i) 4 = 0) (rj : ¬ c (5 + 2 * j) 4 = 0) : f_T_goesBefore c i j = f_M_isFirst m (nI i) (nI j) := by
  unfold f_T_goesBefore f_M_isFirst
  rw [nI_clamp (n := i) (by omega), nI_clamp (n := j) (by omega)]
  rcases hQ i hi with ⟨h1, -⟩ | ⟨-, -, -, h1, h2⟩
  · exact absurd h1 ri
  · rcases hQ j hj with ⟨h3, -⟩ | ⟨-, -, -, h3, h4⟩
    · exact absurd h3 rj
    · rw [h1, h2, h3, h4]
theorem ready_iff (hQ : rQ c m) {t : Nat} (ht : t < 8) : c (5 + 2 * t) 4 = 0 ↔ m 4 t ≤ 0 := by
  rcases hQ t ht with ⟨h1, h2, -⟩ | ⟨h1, h2, -⟩
  · rw [h1, h2]; exact ⟨fun _ => Int32.le_refl 0, fun _ => rfl⟩
  · rw [h1]; exact ⟨fun h => absurd h (by decide), fun h => absurd h (i32_nle h2)⟩
theorem runnerL_eq (hQ : rQ c m) : ∀ (n i : Nat) (v : Int32), i + n = 8 → (v = (-1) ∨ ∃ j, j < 8 ∧ v = nI j ∧ ¬ c (5 + 2 * j) 4 = 0) → f_C_mostUrgent_L4 n i c v = f_M_runner_L4 n i m v := by
  intro n
  induction n with
  | zero => intro i v _ _; rw [f_C_mostUrgent_L4, f_M_runner_L4]
  | succ n ih =>
    intro i v hi hv
    rw [f_C_mostUrgent_L4, f_M_runner_L4]
    by_cases h0 : c (5 + 2 * i) 4 = 0
    · rw [if_pos h0, if_pos ((ready_iff hQ (by omega)).mp h0)]
      exact ih _ _ (by omega) hv
    · rw [if_neg h0, if_neg (fun h => h0 ((ready_iff hQ (by omega)).mpr h))]
      have hn : nI i = (-1) ∨ ∃ j, j < 8 ∧ nI i = nI j ∧ ¬ c (5 + 2 * j) 4 = 0 := Or.inr ⟨i, by omega, rfl, h0⟩
      by_cases h1 : v = (-1)
      · rw [if_pos h1, if_pos h1]
        exact ih _ _ (by omega) hn
      · rw [if_neg h1, if_neg h1]
        obtain ⟨j, hj, rfl, hr⟩ := hv.resolve_left h1
        rw [nI_clamp (n := j) (by omega), first_eq hQ (by omega) hj h0 hr]
        by_cases h2 : f_M_isFirst m (nI i) (nI j) = 0
        · rw [if_pos h2, if_pos h2]
          exact ih _ _ (by omega) hv
        · rw [if_neg h2, if_neg h2]
          exact ih _ _ (by omega) hn
theorem runner_eq (hQ : rQ c m) : f_C_mostUrgent c = f_M_runner m := runnerL_eq hQ 8 0 (-1) rfl (Or.inl rfl)
theorem six_clamp {i k : Nat} (hi : i < 8) (hk : k < 6) : (6 * nI i + nI k).toNatClampNeg = 6 * i + k := by
  rw [show (6 : Int32) = nI 6 from rfl, pk_mul, nI_add, nI_clamp (by omega)]
theorem user_eq (hL : rL c m) {i k : Nat} (hi : i < 8) (hk : k < 6) : f_T_isUserOf c i (nI k) = if m 8 (6 * i + k) ≤ 0 then 0 else 1 := by
  unfold f_T_isUserOf
  rw [nI_clamp (by omega), hL i k hi hk]
theorem top_eq (hT : rT c m) (hL : rL c m) {k : Nat} (hk : k < 6) : ∀ (n i : Nat) (v : Int32), i + n = 8 → f_C_greatestBaseOfUsers_L4 n i c (nI k) v = f_M_top_L4 n i m (nI k) v := by
  intro n
  induction n with
  | zero => intro i v _; rw [f_C_greatestBaseOfUsers_L4, f_M_top_L4]
  | succ n ih =>
    intro i v hi
    rw [f_C_greatestBaseOfUsers_L4, f_M_top_L4, user_eq hL (by omega) hk, six_clamp (by omega) hk, (hT i (by omega)).1, ih _ _ (by omega), ih _ _ (by omega)]
    by_cases h1 : m 8 (6 * i + k) ≤ 0
    · rw [if_pos h1, if_pos h1]; rfl
    · rw [if_neg h1, if_neg h1, if_neg (by decide)]
      unfold imax
      by_cases h2 : m 1 i ≤ v
      · rw [if_pos h2, if_neg (i32_nlt.mpr h2)]
      · rw [if_neg h2, if_pos (i32_nle2.mp h2)]
theorem placeL_eq (hQ : rQ c m) {t : Nat} (ht : t < 8) (hr : ¬ c (5 + 2 * t) 4 = 0) : ∀ (n i : Nat) (v : Int32), i + n = 8 → f_M_place_L19 n i m (nI t) v = (f_C_place_L14 n i c (nI t) v, m) := by
  intro n
  induction n with
  | zero => intro i v _; rw [f_M_place_L19, f_C_place_L14]
  | succ n ih =>
    intro i v hi
    rw [f_M_place_L19, f_C_place_L14, Int32.add_zero, ih _ _ (by omega), ih _ _ (by omega), nI_clamp (n := t) (by omega)]
    by_cases h0 : c (5 + 2 * i) 4 = 0
    · rw [if_pos h0, if_pos ((ready_iff hQ (by omega)).mp h0)]
    · rw [if_neg h0, if_neg (fun h => h0 ((ready_iff hQ (by omega)).mpr h)), first_eq hQ (by omega) ht h0 hr]
      by_cases h1 : nI i = nI t
      · have h2 : f_M_isFirst m (nI i) (nI t) = 0 := by
          rw [h1]
          unfold f_M_isFirst
          rw [if_neg (by rw [i32_nlt]; exact Int32.le_refl _), if_pos rfl, if_pos (Int32.le_refl _)]
        rw [if_pos h1, if_pos h2]
      · rw [if_neg h1]
        by_cases h2 : f_M_isFirst m (nI i) (nI t) = 0
        · rw [if_pos h2, if_pos h2]
        · rw [if_neg h2, if_neg h2]
-- how long it can be kept waiting
theorem imax_use (c : St) (u : Nat) (B w : Int32) : ∀ (n i : Nat) (v : Int32), imax w (f_C_longestUseOfCeiling_L5 n i c u B v) = f_C_longestUseOfCeiling_L5 n i c u B (imax w v) := by
  have hx : ∀ a b d : Int32, imax a (imax b d) = imax (imax a b) d := by
    intro a b d
    unfold imax
    by_cases h1 : b < d <;> by_cases h2 : a < b <;> by_cases h3 : a < d <;> simp only [h1, h2, h3, if_true, if_false] <;> (rw [i32_lt] at *; first | rfl | (exfalso; omega) | (exact Int32.toInt_inj.mp (by omega)))
  intro n
  induction n with
  | zero => intro i v; rw [f_C_longestUseOfCeiling_L5, f_C_longestUseOfCeiling_L5]
  | succ n ih =>
    intro i v
    rw [f_C_longestUseOfCeiling_L5, f_C_longestUseOfCeiling_L5]
    by_cases h : c (21 + i) 0 < B
    · rw [if_pos h, if_pos h, ih]
    · rw [if_neg h, if_neg h, ih, hx]
theorem use_ge (c : St) (u : Nat) (B : Int32) : ∀ (n i : Nat) (v : Int32), 0 ≤ v → 0 ≤ f_C_longestUseOfCeiling_L5 n i c u B v := by
  intro n
  induction n with
  | zero => intro i v h; rw [f_C_longestUseOfCeiling_L5]; exact h
  | succ n ih =>
    intro i v h
    rw [f_C_longestUseOfCeiling_L5]
    by_cases h1 : c (21 + i) 0 < B
    · rw [if_pos h1]; exact ih _ _ h
    · rw [if_neg h1]
      refine ih _ _ ?_
      unfold imax
      split
      · rename_i h2
        rw [i32_le] at *
        rw [i32_lt] at h2
        omega
      · exact h
theorem long_in (hL : rL c m) (hT : rT c m) (hD : rD m) (hE : ∀ k, k < 6 → c (21 + k) 0 = f_M_top m (nI k)) {t i : Nat} (ht : t < 8) (hi : i < 8) (hb : ¬ m 1 t ≤ m 1 i) : ∀ (r k : Nat) (v : Int32) (n : Nat), k + r = 6 → 0 ≤ v → f_M_longest_L4 (n + r) (6 * i + k) m (nI t) v = f_M_longest_L4 n (6 * i + 6) m (nI t) (f_C_longestUseOfCeiling_L5 r k c i (m 1 t) v) := by
  intro r
  induction r with
  | zero =>
    intro k v n hk _
    rw [f_C_longestUseOfCeiling_L5, show k = 6 by omega]
    rfl
  | succ r ih =>
    intro k v n hk hv
    have hk6 : k < 6 := by omega
    have e1 : (nI (6 * i + k) / 6).toNatClampNeg = i := by
      rw [show (6 : Int32) = nI 6 from rfl, pk_div (by omega) (by decide) (by decide), nI_clamp (by omega)]
      omega
    have e2 : irem (nI (6 * i + k)) 6 = nI k := by
      rw [show (6 : Int32) = nI 6 from rfl, irem_nI (by omega) (by decide) (by decide)]
      congr 1
      omega
    rw [show n + (r + 1) = (n + r) + 1 from rfl, f_M_longest_L4, f_C_longestUseOfCeiling_L5, nI_clamp (n := t) (by omega), e1, e2, if_neg hb, ← hE k hk6, hL i k hi hk6, show 6 * i + k + 1 = 6 * i + (k + 1) from rfl]
    have h0 : 0 ≤ m 8 (6 * i + k) := by
      rcases hD i hi with ⟨-, -, h⟩ | ⟨-, -, -, h⟩
      · rw [h k hk6]; exact Int32.le_refl 0
      · exact h k hk6
    have hstep : imax v (m 8 (6 * i + k)) = if m 8 (6 * i + k) ≤ v then v else m 8 (6 * i + k) := by
      unfold imax
      by_cases h2 : m 8 (6 * i + k) ≤ v
      · rw [if_pos h2, if_neg (i32_nlt.mpr h2)]
      · rw [if_neg h2, if_pos (i32_nle2.mp h2)]
    have hmx : 0 ≤ imax v (m 8 (6 * i + k)) := by
      rw [hstep]
      split
      · exact hv
      · exact h0
    by_cases h1 : m 8 (6 * i + k) ≤ 0
    · have h3 : m 8 (6 * i + k) = 0 := i32_anti h1 h0
      rw [if_pos h1, ih _ _ _ (by omega) hv, hstep, h3, if_pos hv]
      split <;> rfl
    · rw [if_neg h1]
      by_cases h2 : c (21 + k) 0 < m 1 t
      · rw [if_pos h2, if_pos h2, ih _ _ _ (by omega) hv]
      · rw [if_neg h2, if_neg h2, ← ih _ _ _ (by omega) hmx, hstep]
        by_cases h4 : m 8 (6 * i + k) ≤ v
        · rw [if_pos h4, if_pos h4]
        · rw [if_neg h4, if_neg h4]
theorem long_out {t i : Nat} (ht : t < 8) (hi : i < 8) (hb : m 1 t ≤ m 1 i) : ∀ (r k : Nat) (v : Int32) (n : Nat), k + r = 6 → f_M_longest_L4 (n + r) (6 * i + k) m (nI t) v = f_M_longest_L4 n (6 * i + 6) m (nI t) v := by
  intro r
  induction r with
  | zero =>
    intro k v n hk
    rw [show k = 6 by omega]
    rfl
  | succ r ih =>
    intro k v n hk
    have e1 : (nI (6 * i + k) / 6).toNatClampNeg = i := by
      rw [show (6 : Int32) = nI 6 from rfl, pk_div (by omega) (by decide) (by decide), nI_clamp (by omega)]
      omega
    rw [show n + (r + 1) = (n + r) + 1 from rfl, f_M_longest_L4, nI_clamp (n := t) (by omega), e1, if_pos hb, show 6 * i + k + 1 = 6 * i + (k + 1) from rfl, ih _ _ _ (by omega)]
theorem longL_eq (hL : rL c m) (hT : rT c m) (hD : rD m) (hE : ∀ k, k < 6 → c (21 + k) 0 = f_M_top m (nI k)) {t : Nat} (ht : t < 8) : ∀ (n i : Nat) (v : Int32), i + n = 8 → 0 ≤ v → f_M_longest_L4 (6 * n) (6 * i) m (nI t) v = f_C_longestBlockingAt_L4 n i c (m 1 t) v := by
  intro n
  induction n with
  | zero => intro i v _ _; rw [show 6 * 0 = 0 from rfl, f_M_longest_L4, f_C_longestBlockingAt_L4]
  | succ n ih =>
    intro i v hi hv
    have hi8 : i < 8 := by omega
    rw [f_C_longestBlockingAt_L4, (hT i hi8).1, show 6 * (n + 1) = 6 * n + 6 from rfl]
    by_cases hb : m 1 t ≤ m 1 i
    · rw [if_pos hb, ← ih (i + 1) v (by omega) hv]
      exact long_out ht hi8 hb 6 0 v (6 * n) rfl
    · have h0 : imax v 0 = v := by
        unfold imax
        rw [if_neg (i32_nlt.mpr hv)]
      have h1 : f_C_longestUseOfCeiling_L5 6 0 c i (m 1 t) v = imax v (f_C_longestUseOfCeiling c i (m 1 t)) := by
        unfold f_C_longestUseOfCeiling
        rw [imax_use, h0]
      rw [if_neg hb, ← h1, ← ih (i + 1) _ (by omega) (use_ge c i (m 1 t) 6 0 v hv)]
      exact long_in hL hT hD hE ht hi8 hb 6 0 v (6 * n) rfl hv
theorem long_eq (hL : rL c m) (hT : rT c m) (hD : rD m) (hE : ∀ k, k < 6 → c (21 + k) 0 = f_M_top m (nI k)) {t : Nat} (ht : t < 8) : f_M_longest m (nI t) = f_C_longestBlockingAt c (m 1 t) := longL_eq hL hT hD hE ht 8 0 0 rfl (Int32.le_refl 0)
-- how late it can end
theorem loadL_eq (hT : rT c m) (hD : rD m) {t : Nat} (ht : t < 8) (hb : 0 < m 1 t) (r a : Int32) : ∀ (n i : Nat) (v : Int32), i + n = 8 → f_M_load_L16 n i m (nI t) r (a + v) = a + f_C_demandOfOthers_L5 n i c (nI t) r v := by
  intro n
  induction n with
  | zero => intro i v _; rw [f_M_load_L16, f_C_demandOfOthers_L5]
  | succ n ih =>
    intro i v hi
    rw [f_M_load_L16, f_C_demandOfOthers_L5, Int32.add_zero, nI_clamp (n := t) (by omega), (hT i (by omega)).1, (hT t ht).1]
    by_cases h1 : nI i = nI t
    · rw [if_pos h1, if_pos h1]
      exact ih _ _ (by omega)
    · rw [if_neg h1, if_neg h1]
      by_cases h2 : m 1 i ≤ 0
      · have h3 : m 1 i < m 1 t := by
          rw [i32_le] at h2
          rw [i32_lt] at *
          omega
        rw [if_pos h2, if_pos h3]
        exact ih _ _ (by omega)
      · rw [if_neg h2]
        by_cases h3 : m 1 i < m 1 t
        · rw [if_pos h3, if_pos h3]
          exact ih _ _ (by omega)
        · rw [if_neg h3, if_neg h3]
          have h4 : f_T_demandIn c i r = ((r + m 3 i) - 1) / m 3 i * m 2 i := by
            unfold f_T_demandIn
            rw [tdecl_eq hT hD (by omega), if_neg h2, if_neg (by decide), (hT i (by omega)).2.1, (hT i (by omega)).2.2.1, Int32.mul_comm]
          rw [h4, Int32.add_assoc]
          exact ih _ _ (by omega)
theorem load_eq (hL : rL c m) (hT : rT c m) (hD : rD m) (hE : ∀ k, k < 6 → c (21 + k) 0 = f_M_top m (nI k)) {t : Nat} (ht : t < 8) (hb : 0 < m 1 t) (r : Int32) : f_M_load m (nI t) r = (m 2 t + f_C_longestBlockingAt c (m 1 t)) + f_C_demandOfOthers c (nI t) r := by
  unfold f_M_load f_C_demandOfOthers
  rw [long_eq hL hT hD hE ht, nI_clamp (by omega), ← loadL_eq hT hD ht hb r _ 8 0 0 rfl, Int32.add_zero]
theorem respL_eq (hL : rL c m) (hT : rT c m) (hD : rD m) (hE : ∀ k, k < 6 → c (21 + k) 0 = f_M_top m (nI k)) {t : Nat} (ht : t < 8) (hb : 0 < m 1 t) : ∀ (n i : Nat), f_M_response_L24 n i m (nI t) = (f_C_response_L43 n i c (nI t) (m 2 t + f_C_longestBlockingAt c (m 1 t)), m) := by
  intro n
  induction n with
  | zero => intro i; rw [f_M_response_L24, f_C_response_L43]
  | succ n ih =>
    intro i
    rw [f_M_response_L24, f_C_response_L43, load_eq hL hT hD hE ht hb, ih]
    split <;> rfl
end REL
