-- places in range, what small methods say
theorem i32_lt {a b : Int32} : a < b ↔ a.toInt < b.toInt := Int32.lt_iff_toInt_lt
theorem i32_le {a b : Int32} : a ≤ b ↔ a.toInt ≤ b.toInt := Int32.le_iff_toInt_le
theorem i32_pos {x : Int32} (h : ¬ x ≤ 0) : 0 < x := by
  rw [i32_le, show (0 : Int32).toInt = 0 from rfl] at h
  rw [i32_lt, show (0 : Int32).toInt = 0 from rfl]
  omega
theorem vi_rg {x k : Int32} {n : Nat} (h1 : ¬ x < 0) (h2 : ¬ k < x) (hk : k.toInt + 1 = n) : vp_in x n := by
  rw [i32_lt, show (0 : Int32).toInt = 0 from rfl] at h1
  rw [i32_lt] at h2
  exact vp_in_iff.mpr ⟨by omega, by omega⟩
theorem vi_rg2 {x k : Int32} {n : Nat} (h1 : ¬ x < 0) (h2 : ¬ k ≤ x) (hk : k.toInt = n) : vp_in x n := by
  rw [i32_lt, show (0 : Int32).toInt = 0 from rfl] at h1
  rw [i32_le] at h2
  exact vp_in_iff.mpr ⟨by omega, by omega⟩
theorem vi_isIn {x k : Int32} {n : Nat} (hk : k.toInt + 1 = n) (h : ¬ f_C_isIn x 0 k = 0) : vp_in x n := by
  unfold f_C_isIn at h
  by_cases h1 : x < 0
  · rw [if_pos h1] at h
    exact absurd rfl h
  · by_cases h2 : k < x
    · rw [if_neg h1, if_pos h2] at h
      exact absurd rfl h
    · exact vi_rg h1 h2 hk
theorem vi_isIn7 {x : Int32} (h : ¬ f_C_isIn x 0 7 = 0) : vp_in x 8 := vi_isIn (by decide) h
theorem vi_isThing {x : Int32} (h : ¬ f_C_isThing x = 0) : vp_in x 6 := vi_isIn (k := 5) (by decide) h
theorem vi_decl {st : St} {x : Int32} (h : ¬ f_C_isDeclared st x = 0) : vp_in x 8 := by
  by_cases h0 : f_C_isIn x 0 7 = 0
  · exact absurd (by rw [f_C_isDeclared, if_pos h0]) h
  · exact vi_isIn7 h0
theorem vi_ready {st : St} {x : Int32} (h : ¬ f_C_isReady st x = 0) : vp_in x 8 := by
  by_cases h0 : f_C_isIn x 0 7 = 0
  · exact absurd (by rw [f_C_isReady, if_pos h0]) h
  · exact vi_isIn7 h0
theorem vi_run {x : Int32} {n : Nat} (h : ¬ x = (-1)) (g : x = (-1) ∨ vp_in x n) : vp_in x n := g.resolve_left h
theorem vi_mTask {x : Int32} (h : ¬ f_M_isTask x = 0) : vp_in x 8 := by
  unfold f_M_isTask at h
  by_cases h1 : x < 0
  · rw [if_pos h1] at h
    exact absurd rfl h
  · by_cases h2 : 8 ≤ x
    · rw [if_neg h1, if_pos h2] at h
      exact absurd rfl h
    · exact vi_rg2 h1 h2 (by decide)
theorem vi_mThing {x : Int32} (h : ¬ f_M_isThing x = 0) : vp_in x 6 := by
  unfold f_M_isThing at h
  by_cases h1 : x < 0
  · rw [if_pos h1] at h
    exact absurd rfl h
  · by_cases h2 : 6 ≤ x
    · rw [if_neg h1, if_pos h2] at h
      exact absurd rfl h
    · exact vi_rg2 h1 h2 (by decide)
theorem vi_mdecl {st : St} {x : Int32} (h : ¬ f_M_isDeclared st x = 0) : vp_in x 8 := by
  by_cases h0 : f_M_isTask x = 0
  · exact absurd (by rw [f_M_isDeclared, if_pos h0]) h
  · exact vi_mTask h0
theorem vi_mready {st : St} {x : Int32} (h : ¬ f_M_isReady st x = 0) : vp_in x 8 := by
  by_cases h0 : f_M_isTask x = 0
  · exact absurd (by rw [f_M_isReady, if_pos h0]) h
  · exact vi_mTask h0
theorem vi_six1 {i : Nat} {b : Int32} (hi : i < 8) (hb : vp_in b 6) : vp_in (6 * nI i + b) 48 := by
  obtain ⟨j, hj, rfl⟩ := vp_in_of hb (by decide)
  rw [show (6 : Int32) = nI 6 from rfl, pk_mul, nI_add]
  exact vp_in_nI (by omega) (by decide)
theorem vi_six {a b : Int32} (ha : vp_in a 8) (hb : vp_in b 6) : vp_in (6 * a + b) 48 := by
  obtain ⟨i, hi, rfl⟩ := vp_in_of ha (by decide)
  exact vi_six1 hi hb
theorem vi_d6 {i : Nat} (h : i < 48) : vp_in (nI i / 6) 8 := by
  rw [show (6 : Int32) = nI 6 from rfl, pk_div (by omega) (by decide) (by decide)]
  exact vp_in_nI (by omega) (by decide)
theorem irem_nI {a d : Nat} (ha : a < 2 ^ 31) (h0 : 0 < d) (hd : d < 2 ^ 31) : irem (nI a) (nI d) = nI (a % d) := pk_rem ha h0 hd
theorem vi_r6 {i : Nat} (h : i < 48) : vp_in (irem (nI i) 6) 6 := by
  rw [show (6 : Int32) = nI 6 from rfl, irem_nI (by omega) (by decide) (by decide)]
  exact vp_in_nI (by omega) (by decide)
theorem vi_mnote {k m : Int32} (h0 : ¬ k < 0) (h1 : k < m) : vp_in (irem ((m - 1) - k) 40) 40 := by
  have hm : ¬ m < 0 := by
    intro h2
    refine h0 ?_
    rw [i32_lt] at *
    omega
  obtain ⟨a, ha, rfl⟩ := nI_of h0
  obtain ⟨b, hb, rfl⟩ := nI_of hm
  have hab : a < b := (nI_ltI ha hb).mp h1
  rw [show (1 : Int32) = nI 1 from rfl, pk_sub (by omega), pk_sub (by omega), show (40 : Int32) = nI 40 from rfl, irem_nI (by omega) (by decide) (by decide)]
  exact vp_in_nI (Nat.mod_lt _ (by decide)) (by decide)
theorem vi_ne0 {st : St} {j : Nat} (h : ¬ f_T_isDeclared st j = 0) : ¬ st (5 + 2 * j) 2 = 0 := fun e => h (by rw [f_T_isDeclared, e]; rfl)
theorem i32_msb {z : Int32} : 0 ≤ z ↔ z.toBitVec.msb = false := by
  rw [i32_le, show (0 : Int32).toInt = 0 from rfl, BitVec.msb_eq_toInt]
  show 0 ≤ z.toBitVec.toInt ↔ _
  simp
theorem i32_xor40 {r : Int32} : 0 ≤ (r ^^^ 40) ↔ 0 ≤ r := by
  rw [i32_msb, i32_msb, Int32.toBitVec_xor, BitVec.msb_xor, show (40 : Int32).toBitVec.msb = false from rfl, Bool.xor_false]
theorem i32_xor65536 {r : Int32} : 0 ≤ (r ^^^ 65536) ↔ 0 ≤ r := by
  rw [i32_msb, i32_msb, Int32.toBitVec_xor, BitVec.msb_xor, show (65536 : Int32).toBitVec.msb = false from rfl, Bool.xor_false]
theorem fm_gen {x k : Int32} (hx : 0 ≤ (x ^^^ k) ↔ 0 ≤ x) : f_J_floorMod x k = fmv x k := by
  have hr : (irem x k).toInt = x.toInt.tmod k.toInt := rem_toInt x k
  show (if 0 ≤ (x ^^^ k) then irem x k else if irem x k = 0 then irem x k else irem x k + k) = if 0 ≤ irem x k then irem x k else irem x k + k
  by_cases h : 0 ≤ x
  · have h1 : 0 ≤ irem x k := by
      rw [i32_le, show (0 : Int32).toInt = 0 from rfl] at h
      rw [i32_le, hr, show (0 : Int32).toInt = 0 from rfl]
      exact Int.tmod_nonneg _ h
    rw [if_pos (hx.mpr h), if_pos h1]
  · rw [if_neg (fun q => h (hx.mp q))]
    by_cases h0 : irem x k = 0
    · rw [if_pos h0, if_pos (by rw [h0]; exact Int32.le_refl 0)]
    · have h1 : ¬ 0 ≤ irem x k := by
        intro q
        refine h0 (Int32.toInt_inj.mp ?_)
        rw [i32_le, show (0 : Int32).toInt = 0 from rfl] at h
        rw [i32_le, hr, show (0 : Int32).toInt = 0 from rfl] at q
        have h2 := Int.tmod_nonneg k.toInt (a := -x.toInt) (by omega)
        rw [Int.neg_tmod] at h2
        rw [hr, show (0 : Int32).toInt = 0 from rfl]
        omega
      rw [if_neg h0, if_neg h1]
theorem fm_40 (x : Int32) : f_J_floorMod x 40 = fmv x 40 := fm_gen i32_xor40
theorem fm_65536 (x : Int32) : f_J_floorMod x 65536 = fmv x 65536 := fm_gen i32_xor65536
theorem vi_fmod40 (x : Int32) : vp_in (f_J_floorMod x 40) 40 := by
  rw [fm_40]
  have h := fmv_bounds (a := x) (m := 40) (by decide)
  exact vp_in_iff.mpr ⟨h.1, h.2⟩
-- the reference's 'refuses'
theorem ref_wr (s : St) (a b : Int32) : ∃ v, (f_M_refuses s a b).2 = wr s 0 0 v := by
  have h : ∀ x, (f_M_refuses_B18 s x).2 = wr s 0 0 x := fun x => by
    unfold f_M_refuses_B18 f_M_refuses_S21
    split <;> rfl
  unfold f_M_refuses
  split
  · split
    · exact ⟨_, h _⟩
    · exact ⟨_, h _⟩
  · exact ⟨_, h _⟩
theorem ref_at {s : St} {a b : Int32} {c k : Nat} (h : ¬ (c = 0 ∧ k = 0)) : (f_M_refuses s a b).2 c k = s c k := by
  obtain ⟨v, e⟩ := ref_wr s a b
  rw [e]
  exact wr_ne h
theorem ref_B (s : St) (x : Int32) : (f_M_refuses_B18 s x).1 = if x ≤ 0 then 0 else 1 := by
  unfold f_M_refuses_B18 f_M_refuses_S21
  rw [wr_eq]
  split <;> rfl
theorem vi_ref1 {s : St} {a b : Int32} (h : (f_M_refuses s a b).1 = 0) : a = 0 := by
  by_cases h1 : a = 0
  · exact h1
  · rw [f_M_refuses, if_neg h1, ref_B] at h
    exact absurd h (by decide)
theorem vi_ref2 {s : St} {a b : Int32} (h : (f_M_refuses s a b).1 = 0) : b = 0 := by
  by_cases h1 : a = 0
  · by_cases h2 : b = 0
    · exact h2
    · rw [f_M_refuses, if_pos h1, if_neg h2, ref_B] at h
      exact absurd h (by decide)
  · rw [f_M_refuses, if_neg h1, ref_B] at h
    exact absurd h (by decide)
-- what the reference's searches find
theorem vi_runnerL (s : St) : ∀ (n i : Nat) (v : Int32), i + n = 8 → (v = (-1) ∨ vp_in v 8) → (f_M_runner_L4 n i s v = (-1) ∨ vp_in (f_M_runner_L4 n i s v) 8) := by
  intro n
  induction n with
  | zero =>
    intro i v _ hv
    rw [f_M_runner_L4]
    exact hv
  | succ n ih =>
    intro i v hi hv
    have hn : nI i = (-1) ∨ vp_in (nI i) 8 := Or.inr (vp_in_nI (by omega) (by decide))
    rw [f_M_runner_L4]
    split
    · exact ih _ _ (by omega) hv
    · split
      · exact ih _ _ (by omega) hn
      · split
        · exact ih _ _ (by omega) hv
        · exact ih _ _ (by omega) hn
theorem vi_runner (s : St) : f_M_runner s = (-1) ∨ vp_in (f_M_runner s) 8 := vi_runnerL s 8 0 (-1) rfl (Or.inl rfl)
theorem vi_latestL (s : St) (r : Int32) : ∀ (n i : Nat) (v : Int32), i + n = 6 → (v = (-1) ∨ vp_in v 6) → (f_M_latest_L4 n i s r v = (-1) ∨ vp_in (f_M_latest_L4 n i s r v) 6) := by
  intro n
  induction n with
  | zero =>
    intro i v _ hv
    rw [f_M_latest_L4]
    exact hv
  | succ n ih =>
    intro i v hi hv
    have hn : nI i = (-1) ∨ vp_in (nI i) 6 := Or.inr (vp_in_nI (by omega) (by decide))
    rw [f_M_latest_L4]
    split
    · split
      · exact ih _ _ (by omega) hn
      · split
        · exact ih _ _ (by omega) hv
        · exact ih _ _ (by omega) hn
    · exact ih _ _ (by omega) hv
theorem vi_latest {s : St} {r k : Int32} (h : ¬ f_M_latest s r = (-1)) (e : f_M_latest s r = k) : vp_in k 6 := by
  rw [← e]
  exact (vi_latestL s r 6 0 (-1) rfl (Or.inl rfl)).resolve_left h
-- a loop's own test
theorem nlt_6 {i : Nat} (h : i < 6) : ¬ (6 : Int32) ≤ nI i := nI_ge h (by decide)
theorem nlt_8 {i : Nat} (h : i < 8) : ¬ (8 : Int32) ≤ nI i := nI_ge h (by decide)
theorem nlt_48 {i : Nat} (h : i < 48) : ¬ (48 : Int32) ≤ nI i := nI_ge h (by decide)
theorem rs_lt {x : Int32} {i : Nat} (h : i + 0 = x.toNatClampNeg + 1) (hb : x.toNatClampNeg < 1000) : x < nI i := by
  have e : x.toNatClampNeg = x.toInt.toNat := rfl
  rw [i32_lt, nI_toInt (by omega)]
  omega
theorem rs_ge {x : Int32} {i n : Nat} (h : i + (n + 1) = x.toNatClampNeg + 1) (h1 : 1 ≤ i) (hb : x.toNatClampNeg < 1000) : ¬ x < nI i := by
  have e : x.toNatClampNeg = x.toInt.toNat := rfl
  rw [i32_lt, nI_toInt (by omega)]
  omega
theorem nb_isIn (a b c : Int32) : narrow .boolean (.int (f_C_isIn a b c)) = .int (f_C_isIn a b c) := by
  unfold f_C_isIn
  split
  · rfl
  · split <;> rfl
