/-! THE CLAIM OUT OF ONE WALK OF THE LAW'S BODY. Your part is whole_start (and what it stands on); all else here is the same for every law, but numbers. -/
def R_law : String := "CeilingDispatchLaw"
def lw_P (b : Addr) (xs : List Int32) (args : Array Value) (s : State) : Prop := args = #[.ref b] ∧ s.IntsAt b xs ∧ xs.length ≤ 2560 ∧ (Jvm.Cond.and given_1 narrow_1).before args s = true
def lw_Q (_ : Array Value) (s : State) (o : Outcome) (t : State) : Prop := o = .returned (some (.int 1)) ∧ Framed s o t [] 660157 7115632
def lw_Z (below : List Frame) (a : Array Value) (s : State) : State → Prop := fun t => ∃ o, t.status = .running ∧ Ended t below o ∧ lw_Q a s o t
/-- the law's own end, with 1 on the stack, nothing written that was there before, its room as the claim has it -/
theorem lw_ret {p : Program} {l : Launch} {e : Env} {s : State} {m : MethodId} {below : List Frame} {meth : Method} {c : Code} {b : Nat} (hx : p.tables.exec = Jvm.exec) (hb : c.code = code) (hr : meth.sig.returnType = ret) (hlocks : meth.locks = false) {pc : Nat} {H : Heap} {ls : Array Slot} (hdg : decode code pc = .ok (.ireturn, 1)) : W p l e room_1 s m #[Value.ref b] below meth c H [] 660157 7115632 (lw_Z below #[Value.ref b] s) (F0 m pc ls [.int 1]) := by
  intro T hT X
  obtain ⟨fs, hret, hrun, hended, hW, hframe⟩ := X.leave (v := some (.int 1)) (hlocks := hlocks) (fun h => by rw [hr] at h; cases h)
  have hmeth' : T.vm.method? m = some meth := X.method'
  refine ⟨T.setFrames fs, ?_, .returned (some (.int 1)), hrun, hended, rfl, ⟨_, rfl⟩, hW, hframe⟩
  jvm_step X.here [X.here.top, hx, hb, hdg, hmeth', hr, ret, narrow_b1]
  (try refine ⟨rfl, ?_⟩); (try refine ⟨rfl, ?_⟩)
  first | (intro acts; rw [hret _ acts rfl rfl rfl]) | rw [hret _ _ rfl rfl rfl]
  exact Steps.refl _
/-- what holds at the law's entry: the machine, the code, the tables' words (any of lw_tbl by 'hts w (by decide +kernel)'), the script of L ints xs at the cell b, what the Statement gives of the start (any of its parts by flat_of_before) -/
def lw_At (p : Program) (s : State) (m : MethodId) (meth : Method) (c : Code) (b L : Nat) (xs : Nat → Int32) : Prop :=
  p.tables.exec = Jvm.exec ∧ c.code = code ∧ meth.sig.returnType = ret ∧ c.maxLocals = 7 ∧ s.vm.findClass R_law = some m.cls ∧ (∀ w ∈ lw_tbl, w.before #[Value.ref b] s = true) ∧ va_X b L xs s s.heap ∧ b < s.heap.size ∧ meth.locks = false ∧ (Jvm.Cond.and given_1 narrow_1).before #[Value.ref b] s = true
-- the law's loop
theorem lw_gt {L n : Nat} (hL : L ≤ 2560) (hn : n ≤ 512) : Int32.ofNat L - 5 < nI (5 * n) ↔ L < 5 * n + 5 := by
  rw [i32_lt, nI_toInt (by omega), show Int32.ofNat L - 5 = nI L - nI 5 from rfl, pk_sub_toInt (by omega) (by decide)]
  omega
theorem z0 {k : Nat} (hk : k < 1000) (h : nI k = 0) : k = 0 := nI_inj hk (by decide) (h.trans rfl)
theorem z0_pass {k : Nat} (h : (if k = 0 then (0 : Int32) else 1) = 0) : k = 0 := Classical.byContradiction fun z => by
  rw [if_neg z] at h
  exact absurd h (by decide)
theorem lcmp_eq {x y : Int64} (h : x = y) : lg_cmp x y = 0 := by
  subst h
  simp [lg_cmp]
theorem cl_seal (c : St) : (f_C_seal c).1 < 1000 := by
  unfold f_C_seal f_C_seal_S22
  split
  · obtain ⟨s', e, -⟩ := sealL 6 0 (wr c 0 3 1) rfl
    rw [e]
    exact (by decide : (0 : Nat) < 1000)
  · exact (by decide : (1 : Nat) < 1000)
theorem cl_release (c : St) (x : Int32) : (f_C_release c x).1 < 1000 := by
  unfold f_C_release f_C_release_S53 f_C_release_S66 f_C_release_S74
  repeat' split
  all_goals first | exact (by decide : (0 : Nat) < 1000) | exact (by decide : (1 : Nat) < 1000) | exact (by decide : (2 : Nat) < 1000)
theorem cl_take (c : St) (x : Int32) : (f_C_take c x).1 < 1000 := by
  unfold f_C_take f_C_take_S91 f_C_take_S99 f_C_take_S107 f_C_take_S112 f_C_take_S127 f_C_take_S137
  repeat' split
  all_goals first | exact (by decide : (0 : Nat) < 1000) | exact (by decide : (1 : Nat) < 1000) | exact (by decide : (2 : Nat) < 1000)
theorem cl_give (c : St) (x : Int32) : (f_C_give c x).1 < 1000 := by
  unfold f_C_give f_C_give_S76 f_C_give_S84 f_C_give_S89 f_C_give_S99
  repeat' split
  all_goals first | exact (by decide : (0 : Nat) < 1000) | exact (by decide : (1 : Nat) < 1000) | exact (by decide : (2 : Nat) < 1000)
theorem cl_finish (c : St) : (f_C_finish c).1 < 1000 := by
  unfold f_C_finish f_C_finish_S49 f_C_finish_S60
  repeat' split
  all_goals first | exact (by decide : (0 : Nat) < 1000) | exact (by decide : (1 : Nat) < 1000) | exact (by decide : (2 : Nat) < 1000)
theorem made_in {n : Nat} {c m : St} (h : rR n c m) (hn : n < 900) : vp_in (irem (m 0 16) 40) 40 ∧ vp_in (irem (m 0 16 + 1) 40) 40 := by
  obtain ⟨_, _, _, e, -, -, -, -, -, -, he, he'⟩ := h.1.2.2.2.2.2.2.2.2.2
  rw [he, nI_1, show (40 : Int32) = nI 40 from rfl, irem_nI (by omega) (by decide) (by decide), irem_nI (by omega) (by decide) (by decide)]
  exact ⟨vp_in_nI (Nat.mod_lt _ (by decide)) (by decide), vp_in_nI (Nat.mod_lt _ (by decide)) (by decide)⟩
theorem per_in {n : Nat} {c m : St} (h : rR n c m) : ∀ t, t < 8 → 0 < m 1 t → ¬ m 3 t = 0 := fun t ht hb z => by
  rcases h.1.2.2.2.2.1 t ht with ⟨q, -⟩ | ⟨-, q, -⟩
  · rw [q] at hb; exact absurd hb (by decide)
  · rw [z] at q; exact absurd q (by decide)
theorem psm_in {n : Nat} {c m : St} (h : rR n c m) : ∀ t, t < 8 → (m 3 t).toNatClampNeg < 1000 := fun t ht => by
  rcases h.1.2.2.2.2.1 t ht with ⟨-, q, -⟩ | ⟨-, -, q, -⟩
  · rw [q]; decide
  · rw [i32_le, show (200 : Int32).toInt = 200 from rfl] at q
    have e : (m 3 t).toNatClampNeg = (m 3 t).toInt.toNat := rfl
    omega
theorem perC_in {n : Nat} {c m : St} (h : rR n c m) : ∀ j, j < 8 → (c (5 + 2 * j) 2).toNatClampNeg < 1000 := fun j hj => by
  rw [(h.1.2.1 j hj).2.2.1]
  exact psm_in h j hj
set_option maxHeartbeats 8000000 in
set_option maxRecDepth 100000 in
theorem lw_loop {p : Program} {e : Env} {s : State} {m : MethodId} {below : List Frame} {meth : Method} {c : Code} (l : Launch) (hl0 : l.stackTraces = false) {b L : Nat} {xs : Nat → Int32} (hL : L ≤ 2560) (C0 : lw_At p s m meth c b L xs) {D : va_G} {cI cT cH cL : ClassId} {aC aM : Nat → Nat} {oa : Nat} (G : LG D cI cT cH cL aC aM oa s) : ∀ (k n : Nat) (sC sM : St) (g : Nat → Int64) (H : Heap) (locs : List Loc) (ls : Array Slot), L ≤ 5 * n + 5 * k + 4 → n ≤ 512 → rR n sC sM → lv_has ls 7 [(4, .int (nI (5 * n))), (3, .ref oa), (2, .ref (aM 0)), (1, .ref (aC 0)), (0, .ref b)] → LI D cI cT cH cL aC aM oa sC sM g s H locs → W p l e room_1 s m #[Value.ref b] below meth c H locs (41 + n) (396 + 6 * n) (lw_Z below #[Value.ref b] s) (F0 m 23 ls []) := by
  obtain ⟨hx, hb, hr, hml, hown, hts9, hX, hbl, hlocks, hgv⟩ := C0
  have hown : s.vm.findClass R_L = some m.cls := hown
  have hts : ∀ w ∈ TT, w.before #[Value.ref b] s = true := fun w h => hts9 w (List.mem_filter.mp h).1
  have hbA : ¬ lA s b := fun z => absurd hbl (Nat.not_lt.mpr z)
  obtain ⟨hK, hKL, hN, -, -, -, -, -, hIC, hIM, hCM, hCo, hMo, hAC, hAM, hAo⟩ := id G
  intro k
  induction k with
  | zero =>
    intro n sC sM g H locs ls hk hn hR hl I
    refine lv_iload hx hb d_L_law_23 (lv_at hl 0 rfl) ?_
    refine lv_aload_n hx hb d_L_law_25 rfl (lv_at hl 4 rfl) ?_
    refine va_slen hx hb hX hbl hbA I.2.2.2 d_L_law_26 ?_
    refine lv_iconst (v := 5) hx hb d_L_law_27 (by decide) ?_
    refine lv_isub hx hb d_L_law_28 ?_
    refine lv_icmp_gt (tgt := 812) hx hb d_L_law_29 (by decide) (fun _ => ?_) (fun h9 => absurd ((lw_gt hL hn).mpr (by omega)) h9)
    refine lv_iconst (v := 1) hx hb d_L_law_812 (by decide) ?_
    refine va_forget I.2.2.2.2.2 ?_
    refine W.widen (k := 660157) (n := 7115632) (by omega) (by omega) ?_
    exact lw_ret hx hb hr hlocks d_L_law_813
  | succ k ih =>
    intro n sC sM g H locs ls hk hn hR hl I
    refine lv_iload hx hb d_L_law_23 (lv_at hl 0 rfl) ?_
    refine lv_aload_n hx hb d_L_law_25 rfl (lv_at hl 4 rfl) ?_
    refine va_slen hx hb hX hbl hbA I.2.2.2 d_L_law_26 ?_
    refine lv_iconst (v := 5) hx hb d_L_law_27 (by decide) ?_
    refine lv_isub hx hb d_L_law_28 ?_
    refine lv_icmp_gt (tgt := 812) hx hb d_L_law_29 (by decide) (fun _ => ?_) (fun h9 => ?_)
    · skip
      refine lv_iconst (v := 1) hx hb d_L_law_812 (by decide) ?_
      refine va_forget I.2.2.2.2.2 ?_
      refine W.widen (k := 660157) (n := 7115632) (by omega) (by omega) ?_
      exact lw_ret hx hb hr hlocks d_L_law_813
    have hlt : 5 * n + 5 ≤ L := Nat.le_of_not_lt (fun z => h9 ((lw_gt hL hn).mpr z))
    have hn9 : n < 900 := by omega
    have hin0 : vp_in (nI (5 * n)) L := vp_in_nI (by omega) (by omega)
    have hin1 : vp_in (nI (5 * n) + 1) L := by rw [show (1 : Int32) = nI 1 from rfl, nI_add]; exact vp_in_nI (by omega) (by omega)
    have hin2 : vp_in (nI (5 * n) + 2) L := by rw [show (2 : Int32) = nI 2 from rfl, nI_add]; exact vp_in_nI (by omega) (by omega)
    have hin3 : vp_in (nI (5 * n) + 3) L := by rw [show (3 : Int32) = nI 3 from rfl, nI_add]; exact vp_in_nI (by omega) (by omega)
    have hin4 : vp_in (nI (5 * n) + 4) L := by rw [show (4 : Int32) = nI 4 from rfl, nI_add]; exact vp_in_nI (by omega) (by omega)
    obtain ⟨x1, hv1⟩ : ∃ z, xs (nI (5 * n) + 1).toNatClampNeg = z := ⟨_, rfl⟩
    obtain ⟨x2, hv2⟩ : ∃ z, xs (nI (5 * n) + 2).toNatClampNeg = z := ⟨_, rfl⟩
    obtain ⟨x3, hv3⟩ : ∃ z, xs (nI (5 * n) + 3).toNatClampNeg = z := ⟨_, rfl⟩
    obtain ⟨x4, hv4⟩ : ∃ z, xs (nI (5 * n) + 4).toNatClampNeg = z := ⟨_, rfl⟩
    have hf0 : 41 + n + 0 ≤ room_1.cells ∧ 396 + 6 * n + 0 ≤ room_1.slots := ⟨by show 41 + n + 0 ≤ 660157; omega, by show 396 + 6 * n + 0 ≤ 7115632; omega⟩
    have hfh : 41 + n + 1 ≤ room_1.cells ∧ 396 + 6 * n + 6 ≤ room_1.slots := ⟨by show 41 + n + 1 ≤ 660157; omega, by show 396 + 6 * n + 6 ≤ 7115632; omega⟩
    have hf1 : 41 + n + 1 + 0 ≤ room_1.cells ∧ 396 + 6 * n + 6 + 0 ≤ room_1.slots := ⟨by show 41 + n + 1 + 0 ≤ 660157; omega, by show 396 + 6 * n + 6 + 0 ≤ 7115632; omega⟩
    have hrun : sC 0 6 = (-1) ∨ vp_in (sC 0 6) 8 := by rw [hR.2]; exact vi_runner sM
    have hmade := made_in hR hn9
    have hper := per_in hR
    have hpsm := psm_in hR
    have hperC := perC_in hR
    have K806 : ∀ (sC1 sM1 : St) (g1 : Nat → Int64) (H : Heap) (locs : List Loc) (ls : Array Slot) (c1 s1 : Nat), c1 ≤ 41 + (n + 1) → s1 ≤ 396 + 6 * (n + 1) → rR (n + 1) sC1 sM1 → lv_has ls 7 [(4, .int (nI (5 * n))), (3, .ref oa), (2, .ref (aM 0)), (1, .ref (aC 0)), (0, .ref b)] → LI D cI cT cH cL aC aM oa sC1 sM1 g1 s H locs → W p l e room_1 s m #[Value.ref b] below meth c H locs (c1) (s1) (lw_Z below #[Value.ref b] s) (F0 m 806 ls []) := by
      intro sC1 sM1 g1 H locs ls c1 s1 hc1 hs1 hR1 hl I
      refine lv_iinc (k := 0) (v := nI (5 * (n + 1))) hx hb d_L_law_806 hl rfl (by show nI (5 * n) + nI 5 = _; rw [nI_add]; congr 1) (by decide) rfl (fun ls hl => ?_)
      refine lv_goto (tgt := 23) hx hb d_L_law_809 (by decide) ?_
      refine W.widen (k := 41 + (n + 1)) (n := 396 + 6 * (n + 1)) hc1 hs1 ?_
      exact ih (n + 1) sC1 sM1 g1 H locs ls (by omega) (by omega) hR1 hl I
    refine lv_aload_n hx hb d_L_law_32 rfl (lv_at hl 4 rfl) ?_
    refine lv_iload hx hb d_L_law_33 (lv_at hl 0 rfl) ?_
    refine va_sld hx hb hX hbl hbA I.2.2.2 hin0 d_L_law_35 ?_
    refine lv_bipush (v := 31) hx hb d_L_law_36 (by decide) ?_
    refine lv_iand hx hb d_L_law_38 ?_
    obtain ⟨j, hj, ej⟩ := pk_andE (xs (nI (5 * n)).toNatClampNeg) (m := 31) 5 (by decide)
    rw [ej]
    rcases (show j = 0 ∨ j = 1 ∨ j = 2 ∨ j = 3 ∨ j = 4 ∨ j = 5 ∨ j = 6 ∨ j = 7 ∨ j = 8 ∨ j = 9 ∨ j = 10 ∨ j = 11 ∨ j = 12 ∨ j = 13 ∨ j = 14 ∨ j = 15 ∨ j = 16 ∨ j = 17 ∨ 18 ≤ j by omega) with rfl | rfl | rfl | rfl | rfl | rfl | rfl | rfl | rfl | rfl | rfl | rfl | rfl | rfl | rfl | rfl | rfl | rfl | h18
    · refine lv_tableIn (off := 85) (tgt := 124) hx hb d_L_law_39 (by decide) (by decide) (by decide) (by decide) ?_
      refine lv_aload_n hx hb d_L_law_124 rfl (lv_at hl 3 rfl) ?_
      refine lv_aload_n hx hb d_L_law_125 rfl (lv_at hl 4 rfl) ?_
      refine lv_iload hx hb d_L_law_126 (lv_at hl 0 rfl) ?_
      refine lv_iconst (v := 1) hx hb d_L_law_128 (by decide) ?_
      refine lv_iadd hx hb d_L_law_129 ?_
      refine va_sld hx hb hX hbl hbA I.2.2.2 hin1 d_L_law_130 ?_
      refine W.eq (g2 := F0 m 131 ls [.int x1, .ref (aC 0)]) (by rw [hv1]) ?_
      refine lv_aload_n hx hb d_L_law_131 rfl (lv_at hl 4 rfl) ?_
      refine lv_iload hx hb d_L_law_132 (lv_at hl 0 rfl) ?_
      refine lv_iconst (v := 2) hx hb d_L_law_134 (by decide) ?_
      refine lv_iadd hx hb d_L_law_135 ?_
      refine va_sld hx hb hX hbl hbA I.2.2.2 hin2 d_L_law_136 ?_
      refine W.eq (g2 := F0 m 137 ls [.int x2, .int x1, .ref (aC 0)]) (by rw [hv2]) ?_
      refine lv_aload_n hx hb d_L_law_137 rfl (lv_at hl 4 rfl) ?_
      refine lv_iload hx hb d_L_law_138 (lv_at hl 0 rfl) ?_
      refine lv_iconst (v := 3) hx hb d_L_law_140 (by decide) ?_
      refine lv_iadd hx hb d_L_law_141 ?_
      refine va_sld hx hb hX hbl hbA I.2.2.2 hin3 d_L_law_142 ?_
      refine W.eq (g2 := F0 m 143 ls [.int x3, .int x2, .int x1, .ref (aC 0)]) (by rw [hv3]) ?_
      refine lv_aload_n hx hb d_L_law_143 rfl (lv_at hl 4 rfl) ?_
      refine lv_iload hx hb d_L_law_144 (lv_at hl 0 rfl) ?_
      refine lv_iconst (v := 4) hx hb d_L_law_146 (by decide) ?_
      refine lv_iadd hx hb d_L_law_147 ?_
      refine va_sld hx hb hX hbl hbA I.2.2.2 hin4 d_L_law_148 ?_
      refine W.eq (g2 := F0 m 149 ls [.int x4, .int x3, .int x2, .int x1, .ref (aC 0)]) (by rw [hv4]) ?_
      refine lr_h (As := [.ref (aC 0), .int x1, .int x2, .int x3, .int x4]) (rest := []) (na := 5) (c_L_declare l D cI cT cH aC sC x1 x2 x3 x4 hl0 hIC) ⟨hx, hb, hml, hown, hts⟩ k_240 k_241 k_23 k_242 (by decide +kernel) (by decide) hfh G I rfl hl.1 rfl (Nat.le_of_ble_eq_true rfl) d_L_law_149 (fun H locs I => ?_)
      refine lv_istore hx hb d_L_law_152 hl (by decide) rfl (fun ls hl => ?_)
      have hl : lv_has ls 7 [(5, .int (nI (f_C_declare sC x1 x2 x3 x4).1)), (4, .int (nI (5 * n))), (3, .ref oa), (2, .ref (aM 0)), (1, .ref (aC 0)), (0, .ref b)] := hl
      refine lv_aload_n hx hb d_L_law_154 rfl (lv_at hl 3 rfl) ?_
      refine lv_aload_n hx hb d_L_law_155 rfl (lv_at hl 5 rfl) ?_
      refine lv_iload hx hb d_L_law_156 (lv_at hl 1 rfl) ?_
      refine lv_iconst (v := 1) hx hb d_L_law_158 (by decide) ?_
      refine lv_iadd hx hb d_L_law_159 ?_
      refine va_sld hx hb hX hbl hbA I.2.2.2 hin1 d_L_law_160 ?_
      refine W.eq (g2 := F0 m 161 ls [.int x1, .ref (aM 0)]) (by rw [hv1]) ?_
      refine lv_aload_n hx hb d_L_law_161 rfl (lv_at hl 5 rfl) ?_
      refine lv_iload hx hb d_L_law_162 (lv_at hl 1 rfl) ?_
      refine lv_iconst (v := 2) hx hb d_L_law_164 (by decide) ?_
      refine lv_iadd hx hb d_L_law_165 ?_
      refine va_sld hx hb hX hbl hbA I.2.2.2 hin2 d_L_law_166 ?_
      refine W.eq (g2 := F0 m 167 ls [.int x2, .int x1, .ref (aM 0)]) (by rw [hv2]) ?_
      refine lv_aload_n hx hb d_L_law_167 rfl (lv_at hl 5 rfl) ?_
      refine lv_iload hx hb d_L_law_168 (lv_at hl 1 rfl) ?_
      refine lv_iconst (v := 3) hx hb d_L_law_170 (by decide) ?_
      refine lv_iadd hx hb d_L_law_171 ?_
      refine va_sld hx hb hX hbl hbA I.2.2.2 hin3 d_L_law_172 ?_
      refine W.eq (g2 := F0 m 173 ls [.int x3, .int x2, .int x1, .ref (aM 0)]) (by rw [hv3]) ?_
      refine lv_aload_n hx hb d_L_law_173 rfl (lv_at hl 5 rfl) ?_
      refine lv_iload hx hb d_L_law_174 (lv_at hl 1 rfl) ?_
      refine lv_iconst (v := 4) hx hb d_L_law_176 (by decide) ?_
      refine lv_iadd hx hb d_L_law_177 ?_
      refine va_sld hx hb hX hbl hbA I.2.2.2 hin4 d_L_law_178 ?_
      refine W.eq (g2 := F0 m 179 ls [.int x4, .int x3, .int x2, .int x1, .ref (aM 0)]) (by rw [hv4]) ?_
      refine lr_mV (As := [.int x1, .int x2, .int x3, .int x4]) (rest := []) (na := 4) (c_M_declare l D cI cT cH aM sM x1 x2 x3 x4 hIM) ⟨hx, hb, hml, hown, hts⟩ k_493 k_494 k_495 k_28 k_496 (by decide +kernel) (by decide) hf1 G I rfl hl.1 rfl (Nat.le_of_ble_eq_true rfl) d_L_law_179 (fun H locs I => ?_)
      refine lv_aload_n hx hb d_L_law_182 rfl (lv_at hl 3 rfl) ?_
      refine rdV (As := []) (rest := []) (na := 0) (c_M_thrown l D cI cT cH aM (f_M_declare sM x1 x2 x3 x4)) ⟨hx, hb, hml, hown, hts⟩ k_489 k_490 k_491 k_28 k_492 (by decide +kernel) (by decide) hf1 I.2.1 hK hN (q0 := 0) (ci := 4) mw_0 rfl rfl hl.1 rfl (Nat.le_of_ble_eq_true rfl) d_L_law_183 ?_
      refine lv_iload hx hb d_L_law_186 (lv_at hl 0 rfl) ?_
      have hop := op_declare hR x1 x2 x3 x4
      have hth : f_M_thrown (f_M_declare sM x1 x2 x3 x4) = (nI (f_C_declare sC x1 x2 x3 x4).1) := hop.1
      have hre : rR (n + 1) (f_C_declare sC x1 x2 x3 x4).2.2 (f_M_declare sM x1 x2 x3 x4) := rR_succ hop.2
      refine lv_icmp_eq (tgt := 193) hx hb d_L_law_188 (by decide) (fun _ => ?_) (fun h9 => absurd hth h9)
      refine lv_goto (tgt := 806) hx hb d_L_law_193 (by decide) ?_
      exact K806 (f_C_declare sC x1 x2 x3 x4).2.2 (f_M_declare sM x1 x2 x3 x4) g H locs ls _ _ (by omega) (by omega) hre (lv_sub hl [1, 2, 3, 4, 5] rfl) I
    · refine lv_tableIn (off := 157) (tgt := 196) hx hb d_L_law_39 (by decide) (by decide) (by decide) (by decide) ?_
      refine lv_aload_n hx hb d_L_law_196 rfl (lv_at hl 3 rfl) ?_
      refine lv_aload_n hx hb d_L_law_197 rfl (lv_at hl 4 rfl) ?_
      refine lv_iload hx hb d_L_law_198 (lv_at hl 0 rfl) ?_
      refine lv_iconst (v := 1) hx hb d_L_law_200 (by decide) ?_
      refine lv_iadd hx hb d_L_law_201 ?_
      refine va_sld hx hb hX hbl hbA I.2.2.2 hin1 d_L_law_202 ?_
      refine W.eq (g2 := F0 m 203 ls [.int x1, .ref (aC 0)]) (by rw [hv1]) ?_
      refine lv_aload_n hx hb d_L_law_203 rfl (lv_at hl 4 rfl) ?_
      refine lv_iload hx hb d_L_law_204 (lv_at hl 0 rfl) ?_
      refine lv_iconst (v := 2) hx hb d_L_law_206 (by decide) ?_
      refine lv_iadd hx hb d_L_law_207 ?_
      refine va_sld hx hb hX hbl hbA I.2.2.2 hin2 d_L_law_208 ?_
      refine W.eq (g2 := F0 m 209 ls [.int x2, .int x1, .ref (aC 0)]) (by rw [hv2]) ?_
      refine lv_aload_n hx hb d_L_law_209 rfl (lv_at hl 4 rfl) ?_
      refine lv_iload hx hb d_L_law_210 (lv_at hl 0 rfl) ?_
      refine lv_iconst (v := 3) hx hb d_L_law_212 (by decide) ?_
      refine lv_iadd hx hb d_L_law_213 ?_
      refine va_sld hx hb hX hbl hbA I.2.2.2 hin3 d_L_law_214 ?_
      refine W.eq (g2 := F0 m 215 ls [.int x3, .int x2, .int x1, .ref (aC 0)]) (by rw [hv3]) ?_
      refine lr_h (As := [.ref (aC 0), .int x1, .int x2, .int x3]) (rest := []) (na := 4) (c_L_mayUse l D cI cT cH aC sC x1 x2 x3 hl0 hIC) ⟨hx, hb, hml, hown, hts⟩ k_332 k_333 k_23 k_334 (by decide +kernel) (by decide) hfh G I rfl hl.1 rfl (Nat.le_of_ble_eq_true rfl) d_L_law_215 (fun H locs I => ?_)
      refine lv_istore hx hb d_L_law_218 hl (by decide) rfl (fun ls hl => ?_)
      have hl : lv_has ls 7 [(5, .int (nI (f_C_mayUse sC x1 x2 x3).1)), (4, .int (nI (5 * n))), (3, .ref oa), (2, .ref (aM 0)), (1, .ref (aC 0)), (0, .ref b)] := hl
      refine lv_aload_n hx hb d_L_law_220 rfl (lv_at hl 3 rfl) ?_
      refine lv_aload_n hx hb d_L_law_221 rfl (lv_at hl 5 rfl) ?_
      refine lv_iload hx hb d_L_law_222 (lv_at hl 1 rfl) ?_
      refine lv_iconst (v := 1) hx hb d_L_law_224 (by decide) ?_
      refine lv_iadd hx hb d_L_law_225 ?_
      refine va_sld hx hb hX hbl hbA I.2.2.2 hin1 d_L_law_226 ?_
      refine W.eq (g2 := F0 m 227 ls [.int x1, .ref (aM 0)]) (by rw [hv1]) ?_
      refine lv_aload_n hx hb d_L_law_227 rfl (lv_at hl 5 rfl) ?_
      refine lv_iload hx hb d_L_law_228 (lv_at hl 1 rfl) ?_
      refine lv_iconst (v := 2) hx hb d_L_law_230 (by decide) ?_
      refine lv_iadd hx hb d_L_law_231 ?_
      refine va_sld hx hb hX hbl hbA I.2.2.2 hin2 d_L_law_232 ?_
      refine W.eq (g2 := F0 m 233 ls [.int x2, .int x1, .ref (aM 0)]) (by rw [hv2]) ?_
      refine lv_aload_n hx hb d_L_law_233 rfl (lv_at hl 5 rfl) ?_
      refine lv_iload hx hb d_L_law_234 (lv_at hl 1 rfl) ?_
      refine lv_iconst (v := 3) hx hb d_L_law_236 (by decide) ?_
      refine lv_iadd hx hb d_L_law_237 ?_
      refine va_sld hx hb hX hbl hbA I.2.2.2 hin3 d_L_law_238 ?_
      refine W.eq (g2 := F0 m 239 ls [.int x3, .int x2, .int x1, .ref (aM 0)]) (by rw [hv3]) ?_
      refine lr_mV (As := [.int x1, .int x2, .int x3]) (rest := []) (na := 3) (c_M_mayUse l D cI cT cH aM sM x1 x2 x3 hIM) ⟨hx, hb, hml, hown, hts⟩ k_508 k_509 k_510 k_28 k_511 (by decide +kernel) (by decide) hf1 G I rfl hl.1 rfl (Nat.le_of_ble_eq_true rfl) d_L_law_239 (fun H locs I => ?_)
      refine lv_aload_n hx hb d_L_law_242 rfl (lv_at hl 3 rfl) ?_
      refine rdV (As := []) (rest := []) (na := 0) (c_M_thrown l D cI cT cH aM (f_M_mayUse sM x1 x2 x3)) ⟨hx, hb, hml, hown, hts⟩ k_489 k_490 k_491 k_28 k_492 (by decide +kernel) (by decide) hf1 I.2.1 hK hN (q0 := 0) (ci := 4) mw_0 rfl rfl hl.1 rfl (Nat.le_of_ble_eq_true rfl) d_L_law_243 ?_
      refine lv_iload hx hb d_L_law_246 (lv_at hl 0 rfl) ?_
      have hop := op_mayUse hR x1 x2 x3
      have hth : f_M_thrown (f_M_mayUse sM x1 x2 x3) = (nI (f_C_mayUse sC x1 x2 x3).1) := hop.1
      have hre : rR (n + 1) (f_C_mayUse sC x1 x2 x3).2.2 (f_M_mayUse sM x1 x2 x3) := rR_succ hop.2
      refine lv_icmp_eq (tgt := 253) hx hb d_L_law_248 (by decide) (fun _ => ?_) (fun h9 => absurd hth h9)
      refine lv_goto (tgt := 806) hx hb d_L_law_253 (by decide) ?_
      exact K806 (f_C_mayUse sC x1 x2 x3).2.2 (f_M_mayUse sM x1 x2 x3) g H locs ls _ _ (by omega) (by omega) hre (lv_sub hl [1, 2, 3, 4, 5] rfl) I
    · refine lv_tableIn (off := 217) (tgt := 256) hx hb d_L_law_39 (by decide) (by decide) (by decide) (by decide) ?_
      refine lv_aload_n hx hb d_L_law_256 rfl (lv_at hl 3 rfl) ?_
      refine lv_aload_n hx hb d_L_law_257 rfl (lv_at hl 1 rfl) ?_
      refine lr_ho (As := [.ref (aC 0), .ref oa]) (rest := []) (na := 2) (c_L_seal l D cI cT cH cL aC sC oa g hl0 hIC hCo) ⟨hx, hb, hml, hown, hts⟩ k_341 k_342 k_23 k_343 (by decide +kernel) (by decide) hfh G I rfl hl.1 rfl (Nat.le_of_ble_eq_true rfl) d_L_law_258 (fun g1 H locs hpg I => ?_)
      refine lv_istore hx hb d_L_law_261 hl (by decide) rfl (fun ls hl => ?_)
      have hl : lv_has ls 7 [(5, .int (nI (f_C_seal sC).1)), (4, .int (nI (5 * n))), (3, .ref oa), (2, .ref (aM 0)), (1, .ref (aC 0)), (0, .ref b)] := hl
      refine lv_aload_n hx hb d_L_law_263 rfl (lv_at hl 3 rfl) ?_
      refine lr_mI (As := []) (rest := []) (na := 0) (c_M_seal l D cI cT cH aM sM hIM) ⟨hx, hb, hml, hown, hts⟩ k_515 k_516 k_517 k_28 k_518 (by decide +kernel) (by decide) hf1 G I rfl hl.1 rfl (Nat.le_of_ble_eq_true rfl) d_L_law_264 (fun H locs I => ?_)
      refine lv_istore hx hb d_L_law_267 hl (by decide) rfl (fun ls hl => ?_)
      have hl : lv_has ls 7 [(6, .int (f_M_seal sM).1), (5, .int (nI (f_C_seal sC).1)), (4, .int (nI (5 * n))), (3, .ref oa), (2, .ref (aM 0)), (1, .ref (aC 0)), (0, .ref b)] := hl
      refine lv_aload_n hx hb d_L_law_269 rfl (lv_at hl 4 rfl) ?_
      refine rdV (As := []) (rest := []) (na := 0) (c_M_thrown l D cI cT cH aM (f_M_seal sM).2) ⟨hx, hb, hml, hown, hts⟩ k_489 k_490 k_491 k_28 k_492 (by decide +kernel) (by decide) hf1 I.2.1 hK hN (q0 := 0) (ci := 4) mw_0 rfl rfl hl.1 rfl (Nat.le_of_ble_eq_true rfl) d_L_law_270 ?_
      refine lv_iload hx hb d_L_law_273 (lv_at hl 1 rfl) ?_
      have hop := op_seal hR
      have hth : f_M_thrown (f_M_seal sM).2 = (nI (f_C_seal sC).1) := hop.1
      have hre : rR (n + 1) (f_C_seal sC).2.2 (f_M_seal sM).2 := rR_succ hop.2.2
      have hval := hop.2.1
      refine lv_icmp_eq (tgt := 280) hx hb d_L_law_275 (by decide) (fun _ => ?_) (fun h9 => absurd hth h9)
      refine lv_iload hx hb d_L_law_280 (lv_at hl 1 rfl) ?_
      refine lv_if_ne (tgt := 297) hx hb d_L_law_282 (by decide) (fun _ => ?_) (fun h0 => ?_)
      · refine lv_goto (tgt := 806) hx hb d_L_law_297 (by decide) ?_
        exact K806 (f_C_seal sC).2.2 (f_M_seal sM).2 g1 H locs ls _ _ (by omega) (by omega) hre (lv_sub hl [2, 3, 4, 5, 6] rfl) I
      · have hz : (f_C_seal sC).1 = 0 := z0 (cl_seal sC) h0
        refine lv_aload_n hx hb d_L_law_285 rfl (lv_at hl 3 rfl) ?_
        refine lv_iconst (v := 0) hx hb d_L_law_286 (by decide) ?_
        refine va_lald hx hb hKL I.2.2.1 0 0 rfl rfl vi_01 d_L_law_287 ?_
        refine lv_iload hx hb d_L_law_288 (lv_at hl 0 rfl) ?_
        refine lv_i2l hx hb d_L_law_290 rfl ?_
        refine W.lcmp hx hb d_L_law_291 ?_
        refine lv_if_eq (tgt := 297) hx hb d_L_law_292 (by decide) (fun _ => ?_) (fun h9 => absurd (lcmp_eq ((hpg hz).trans (by rw [hval hz]))) h9)
        refine lv_goto (tgt := 806) hx hb d_L_law_297 (by decide) ?_
        exact K806 (f_C_seal sC).2.2 (f_M_seal sM).2 g1 H locs ls _ _ (by omega) (by omega) hre (lv_sub hl [2, 3, 4, 5, 6] rfl) I
    · refine lv_tableIn (off := 261) (tgt := 300) hx hb d_L_law_39 (by decide) (by decide) (by decide) (by decide) ?_
      refine lv_aload_n hx hb d_L_law_300 rfl (lv_at hl 3 rfl) ?_
      refine lv_aload_n hx hb d_L_law_301 rfl (lv_at hl 4 rfl) ?_
      refine lv_iload hx hb d_L_law_302 (lv_at hl 0 rfl) ?_
      refine lv_iconst (v := 1) hx hb d_L_law_304 (by decide) ?_
      refine lv_iadd hx hb d_L_law_305 ?_
      refine va_sld hx hb hX hbl hbA I.2.2.2 hin1 d_L_law_306 ?_
      refine W.eq (g2 := F0 m 307 ls [.int x1, .ref (aC 0)]) (by rw [hv1]) ?_
      refine lv_aload_n hx hb d_L_law_307 rfl (lv_at hl 1 rfl) ?_
      refine lr_ho (As := [.ref (aC 0), .int x1, .ref oa]) (rest := []) (na := 3) (c_L_release l D cI cT cH cL aC sC oa g x1 hl0 hIC hCo) ⟨hx, hb, hml, hown, hts⟩ k_360 k_361 k_23 k_362 (by decide +kernel) (by decide) hfh G I rfl hl.1 rfl (Nat.le_of_ble_eq_true rfl) d_L_law_308 (fun g1 H locs hpg I => ?_)
      refine lv_istore hx hb d_L_law_311 hl (by decide) rfl (fun ls hl => ?_)
      have hl : lv_has ls 7 [(5, .int (nI (f_C_release sC x1).1)), (4, .int (nI (5 * n))), (3, .ref oa), (2, .ref (aM 0)), (1, .ref (aC 0)), (0, .ref b)] := hl
      refine lv_aload_n hx hb d_L_law_313 rfl (lv_at hl 3 rfl) ?_
      refine lv_aload_n hx hb d_L_law_314 rfl (lv_at hl 5 rfl) ?_
      refine lv_iload hx hb d_L_law_315 (lv_at hl 1 rfl) ?_
      refine lv_iconst (v := 1) hx hb d_L_law_317 (by decide) ?_
      refine lv_iadd hx hb d_L_law_318 ?_
      refine va_sld hx hb hX hbl hbA I.2.2.2 hin1 d_L_law_319 ?_
      refine W.eq (g2 := F0 m 320 ls [.int x1, .ref (aM 0)]) (by rw [hv1]) ?_
      refine lr_mI (As := [.int x1]) (rest := []) (na := 1) (c_M_release l D cI cT cH aM sM x1 hIM hmade) ⟨hx, hb, hml, hown, hts⟩ k_519 k_520 k_521 k_28 k_522 (by decide +kernel) (by decide) hf1 G I rfl hl.1 rfl (Nat.le_of_ble_eq_true rfl) d_L_law_320 (fun H locs I => ?_)
      refine lv_istore hx hb d_L_law_323 hl (by decide) rfl (fun ls hl => ?_)
      have hl : lv_has ls 7 [(6, .int (f_M_release sM x1).1), (5, .int (nI (f_C_release sC x1).1)), (4, .int (nI (5 * n))), (3, .ref oa), (2, .ref (aM 0)), (1, .ref (aC 0)), (0, .ref b)] := hl
      refine lv_aload_n hx hb d_L_law_325 rfl (lv_at hl 4 rfl) ?_
      refine rdV (As := []) (rest := []) (na := 0) (c_M_thrown l D cI cT cH aM (f_M_release sM x1).2) ⟨hx, hb, hml, hown, hts⟩ k_489 k_490 k_491 k_28 k_492 (by decide +kernel) (by decide) hf1 I.2.1 hK hN (q0 := 0) (ci := 4) mw_0 rfl rfl hl.1 rfl (Nat.le_of_ble_eq_true rfl) d_L_law_326 ?_
      refine lv_iload hx hb d_L_law_329 (lv_at hl 1 rfl) ?_
      have hop := op_release hR hn9 x1
      have hth : f_M_thrown (f_M_release sM x1).2 = (nI (f_C_release sC x1).1) := hop.1
      have hre : rR (n + 1) (f_C_release sC x1).2.2 (f_M_release sM x1).2 := hop.2.2
      have hval := hop.2.1
      refine lv_icmp_eq (tgt := 336) hx hb d_L_law_331 (by decide) (fun _ => ?_) (fun h9 => absurd hth h9)
      refine lv_iload hx hb d_L_law_336 (lv_at hl 1 rfl) ?_
      refine lv_if_ne (tgt := 353) hx hb d_L_law_338 (by decide) (fun _ => ?_) (fun h0 => ?_)
      · refine lv_goto (tgt := 806) hx hb d_L_law_353 (by decide) ?_
        exact K806 (f_C_release sC x1).2.2 (f_M_release sM x1).2 g1 H locs ls _ _ (by omega) (by omega) hre (lv_sub hl [2, 3, 4, 5, 6] rfl) I
      · have hz : (f_C_release sC x1).1 = 0 := z0 (cl_release sC x1) h0
        refine lv_aload_n hx hb d_L_law_341 rfl (lv_at hl 3 rfl) ?_
        refine lv_iconst (v := 0) hx hb d_L_law_342 (by decide) ?_
        refine va_lald hx hb hKL I.2.2.1 0 0 rfl rfl vi_01 d_L_law_343 ?_
        refine lv_iload hx hb d_L_law_344 (lv_at hl 0 rfl) ?_
        refine lv_i2l hx hb d_L_law_346 rfl ?_
        refine W.lcmp hx hb d_L_law_347 ?_
        refine lv_if_eq (tgt := 353) hx hb d_L_law_348 (by decide) (fun _ => ?_) (fun h9 => absurd (lcmp_eq ((hpg hz).trans (by rw [hval hz]))) h9)
        refine lv_goto (tgt := 806) hx hb d_L_law_353 (by decide) ?_
        exact K806 (f_C_release sC x1).2.2 (f_M_release sM x1).2 g1 H locs ls _ _ (by omega) (by omega) hre (lv_sub hl [2, 3, 4, 5, 6] rfl) I
    · refine lv_tableIn (off := 317) (tgt := 356) hx hb d_L_law_39 (by decide) (by decide) (by decide) (by decide) ?_
      refine lv_aload_n hx hb d_L_law_356 rfl (lv_at hl 3 rfl) ?_
      refine lv_aload_n hx hb d_L_law_357 rfl (lv_at hl 4 rfl) ?_
      refine lv_iload hx hb d_L_law_358 (lv_at hl 0 rfl) ?_
      refine lv_iconst (v := 1) hx hb d_L_law_360 (by decide) ?_
      refine lv_iadd hx hb d_L_law_361 ?_
      refine va_sld hx hb hX hbl hbA I.2.2.2 hin1 d_L_law_362 ?_
      refine W.eq (g2 := F0 m 363 ls [.int x1, .ref (aC 0)]) (by rw [hv1]) ?_
      refine lv_aload_n hx hb d_L_law_363 rfl (lv_at hl 1 rfl) ?_
      refine lr_ho (As := [.ref (aC 0), .int x1, .ref oa]) (rest := []) (na := 3) (c_L_take l D cI cT cH cL aC sC oa g x1 hl0 hIC hrun hCo) ⟨hx, hb, hml, hown, hts⟩ k_386 k_387 k_23 k_388 (by decide +kernel) (by decide) hfh G I rfl hl.1 rfl (Nat.le_of_ble_eq_true rfl) d_L_law_364 (fun g1 H locs hpg I => ?_)
      refine lv_istore hx hb d_L_law_367 hl (by decide) rfl (fun ls hl => ?_)
      have hl : lv_has ls 7 [(5, .int (nI (f_C_take sC x1).1)), (4, .int (nI (5 * n))), (3, .ref oa), (2, .ref (aM 0)), (1, .ref (aC 0)), (0, .ref b)] := hl
      refine lv_aload_n hx hb d_L_law_369 rfl (lv_at hl 3 rfl) ?_
      refine lv_aload_n hx hb d_L_law_370 rfl (lv_at hl 5 rfl) ?_
      refine lv_iload hx hb d_L_law_371 (lv_at hl 1 rfl) ?_
      refine lv_iconst (v := 1) hx hb d_L_law_373 (by decide) ?_
      refine lv_iadd hx hb d_L_law_374 ?_
      refine va_sld hx hb hX hbl hbA I.2.2.2 hin1 d_L_law_375 ?_
      refine W.eq (g2 := F0 m 376 ls [.int x1, .ref (aM 0)]) (by rw [hv1]) ?_
      refine lr_mI (As := [.int x1]) (rest := []) (na := 1) (c_M_take l D cI cT cH aM sM x1 hIM hmade) ⟨hx, hb, hml, hown, hts⟩ k_544 k_545 k_546 k_28 k_547 (by decide +kernel) (by decide) hf1 G I rfl hl.1 rfl (Nat.le_of_ble_eq_true rfl) d_L_law_376 (fun H locs I => ?_)
      refine lv_istore hx hb d_L_law_379 hl (by decide) rfl (fun ls hl => ?_)
      have hl : lv_has ls 7 [(6, .int (f_M_take sM x1).1), (5, .int (nI (f_C_take sC x1).1)), (4, .int (nI (5 * n))), (3, .ref oa), (2, .ref (aM 0)), (1, .ref (aC 0)), (0, .ref b)] := hl
      refine lv_aload_n hx hb d_L_law_381 rfl (lv_at hl 4 rfl) ?_
      refine rdV (As := []) (rest := []) (na := 0) (c_M_thrown l D cI cT cH aM (f_M_take sM x1).2) ⟨hx, hb, hml, hown, hts⟩ k_489 k_490 k_491 k_28 k_492 (by decide +kernel) (by decide) hf1 I.2.1 hK hN (q0 := 0) (ci := 4) mw_0 rfl rfl hl.1 rfl (Nat.le_of_ble_eq_true rfl) d_L_law_382 ?_
      refine lv_iload hx hb d_L_law_385 (lv_at hl 1 rfl) ?_
      have hop := op_take hR hn9 x1
      have hth : f_M_thrown (f_M_take sM x1).2 = (nI (f_C_take sC x1).1) := hop.1
      have hre : rR (n + 1) (f_C_take sC x1).2.2 (f_M_take sM x1).2 := hop.2.2
      have hval := hop.2.1
      refine lv_icmp_eq (tgt := 392) hx hb d_L_law_387 (by decide) (fun _ => ?_) (fun h9 => absurd hth h9)
      refine lv_iload hx hb d_L_law_392 (lv_at hl 1 rfl) ?_
      refine lv_if_ne (tgt := 409) hx hb d_L_law_394 (by decide) (fun _ => ?_) (fun h0 => ?_)
      · refine lv_goto (tgt := 806) hx hb d_L_law_409 (by decide) ?_
        exact K806 (f_C_take sC x1).2.2 (f_M_take sM x1).2 g1 H locs ls _ _ (by omega) (by omega) hre (lv_sub hl [2, 3, 4, 5, 6] rfl) I
      · have hz : (f_C_take sC x1).1 = 0 := z0 (cl_take sC x1) h0
        refine lv_aload_n hx hb d_L_law_397 rfl (lv_at hl 3 rfl) ?_
        refine lv_iconst (v := 0) hx hb d_L_law_398 (by decide) ?_
        refine va_lald hx hb hKL I.2.2.1 0 0 rfl rfl vi_01 d_L_law_399 ?_
        refine lv_iload hx hb d_L_law_400 (lv_at hl 0 rfl) ?_
        refine lv_i2l hx hb d_L_law_402 rfl ?_
        refine W.lcmp hx hb d_L_law_403 ?_
        refine lv_if_eq (tgt := 409) hx hb d_L_law_404 (by decide) (fun _ => ?_) (fun h9 => absurd (lcmp_eq ((hpg hz).trans (by rw [hval hz]))) h9)
        refine lv_goto (tgt := 806) hx hb d_L_law_409 (by decide) ?_
        exact K806 (f_C_take sC x1).2.2 (f_M_take sM x1).2 g1 H locs ls _ _ (by omega) (by omega) hre (lv_sub hl [2, 3, 4, 5, 6] rfl) I
    · refine lv_tableIn (off := 373) (tgt := 412) hx hb d_L_law_39 (by decide) (by decide) (by decide) (by decide) ?_
      refine lv_aload_n hx hb d_L_law_412 rfl (lv_at hl 3 rfl) ?_
      refine lv_aload_n hx hb d_L_law_413 rfl (lv_at hl 4 rfl) ?_
      refine lv_iload hx hb d_L_law_414 (lv_at hl 0 rfl) ?_
      refine lv_iconst (v := 1) hx hb d_L_law_416 (by decide) ?_
      refine lv_iadd hx hb d_L_law_417 ?_
      refine va_sld hx hb hX hbl hbA I.2.2.2 hin1 d_L_law_418 ?_
      refine W.eq (g2 := F0 m 419 ls [.int x1, .ref (aC 0)]) (by rw [hv1]) ?_
      refine lv_aload_n hx hb d_L_law_419 rfl (lv_at hl 1 rfl) ?_
      refine lr_ho (As := [.ref (aC 0), .int x1, .ref oa]) (rest := []) (na := 3) (c_L_give l D cI cT cH cL aC sC oa g x1 hl0 hIC hrun hCo) ⟨hx, hb, hml, hown, hts⟩ k_399 k_400 k_23 k_401 (by decide +kernel) (by decide) hfh G I rfl hl.1 rfl (Nat.le_of_ble_eq_true rfl) d_L_law_420 (fun g1 H locs hpg I => ?_)
      refine lv_istore hx hb d_L_law_423 hl (by decide) rfl (fun ls hl => ?_)
      have hl : lv_has ls 7 [(5, .int (nI (f_C_give sC x1).1)), (4, .int (nI (5 * n))), (3, .ref oa), (2, .ref (aM 0)), (1, .ref (aC 0)), (0, .ref b)] := hl
      refine lv_aload_n hx hb d_L_law_425 rfl (lv_at hl 3 rfl) ?_
      refine lv_aload_n hx hb d_L_law_426 rfl (lv_at hl 5 rfl) ?_
      refine lv_iload hx hb d_L_law_427 (lv_at hl 1 rfl) ?_
      refine lv_iconst (v := 1) hx hb d_L_law_429 (by decide) ?_
      refine lv_iadd hx hb d_L_law_430 ?_
      refine va_sld hx hb hX hbl hbA I.2.2.2 hin1 d_L_law_431 ?_
      refine W.eq (g2 := F0 m 432 ls [.int x1, .ref (aM 0)]) (by rw [hv1]) ?_
      refine lr_mI (As := [.int x1]) (rest := []) (na := 1) (c_M_give l D cI cT cH aM sM x1 hIM hmade) ⟨hx, hb, hml, hown, hts⟩ k_552 k_553 k_554 k_28 k_555 (by decide +kernel) (by decide) hf1 G I rfl hl.1 rfl (Nat.le_of_ble_eq_true rfl) d_L_law_432 (fun H locs I => ?_)
      refine lv_istore hx hb d_L_law_435 hl (by decide) rfl (fun ls hl => ?_)
      have hl : lv_has ls 7 [(6, .int (f_M_give sM x1).1), (5, .int (nI (f_C_give sC x1).1)), (4, .int (nI (5 * n))), (3, .ref oa), (2, .ref (aM 0)), (1, .ref (aC 0)), (0, .ref b)] := hl
      refine lv_aload_n hx hb d_L_law_437 rfl (lv_at hl 4 rfl) ?_
      refine rdV (As := []) (rest := []) (na := 0) (c_M_thrown l D cI cT cH aM (f_M_give sM x1).2) ⟨hx, hb, hml, hown, hts⟩ k_489 k_490 k_491 k_28 k_492 (by decide +kernel) (by decide) hf1 I.2.1 hK hN (q0 := 0) (ci := 4) mw_0 rfl rfl hl.1 rfl (Nat.le_of_ble_eq_true rfl) d_L_law_438 ?_
      refine lv_iload hx hb d_L_law_441 (lv_at hl 1 rfl) ?_
      have hop := op_give hR hn9 x1
      have hth : f_M_thrown (f_M_give sM x1).2 = (nI (f_C_give sC x1).1) := hop.1
      have hre : rR (n + 1) (f_C_give sC x1).2.2 (f_M_give sM x1).2 := hop.2.2
      have hval := hop.2.1
      refine lv_icmp_eq (tgt := 448) hx hb d_L_law_443 (by decide) (fun _ => ?_) (fun h9 => absurd hth h9)
      refine lv_iload hx hb d_L_law_448 (lv_at hl 1 rfl) ?_
      refine lv_if_ne (tgt := 465) hx hb d_L_law_450 (by decide) (fun _ => ?_) (fun h0 => ?_)
      · refine lv_goto (tgt := 806) hx hb d_L_law_465 (by decide) ?_
        exact K806 (f_C_give sC x1).2.2 (f_M_give sM x1).2 g1 H locs ls _ _ (by omega) (by omega) hre (lv_sub hl [2, 3, 4, 5, 6] rfl) I
      · have hz : (f_C_give sC x1).1 = 0 := z0 (cl_give sC x1) h0
        refine lv_aload_n hx hb d_L_law_453 rfl (lv_at hl 3 rfl) ?_
        refine lv_iconst (v := 0) hx hb d_L_law_454 (by decide) ?_
        refine va_lald hx hb hKL I.2.2.1 0 0 rfl rfl vi_01 d_L_law_455 ?_
        refine lv_iload hx hb d_L_law_456 (lv_at hl 0 rfl) ?_
        refine lv_i2l hx hb d_L_law_458 rfl ?_
        refine W.lcmp hx hb d_L_law_459 ?_
        refine lv_if_eq (tgt := 465) hx hb d_L_law_460 (by decide) (fun _ => ?_) (fun h9 => absurd (lcmp_eq ((hpg hz).trans (by rw [hval hz]))) h9)
        refine lv_goto (tgt := 806) hx hb d_L_law_465 (by decide) ?_
        exact K806 (f_C_give sC x1).2.2 (f_M_give sM x1).2 g1 H locs ls _ _ (by omega) (by omega) hre (lv_sub hl [2, 3, 4, 5, 6] rfl) I
    · refine lv_tableIn (off := 429) (tgt := 468) hx hb d_L_law_39 (by decide) (by decide) (by decide) (by decide) ?_
      refine lv_aload_n hx hb d_L_law_468 rfl (lv_at hl 3 rfl) ?_
      refine lv_aload_n hx hb d_L_law_469 rfl (lv_at hl 1 rfl) ?_
      refine lr_ho (As := [.ref (aC 0), .ref oa]) (rest := []) (na := 2) (c_L_finish l D cI cT cH cL aC sC oa g hl0 hIC hrun hCo) ⟨hx, hb, hml, hown, hts⟩ k_408 k_409 k_23 k_410 (by decide +kernel) (by decide) hfh G I rfl hl.1 rfl (Nat.le_of_ble_eq_true rfl) d_L_law_470 (fun g1 H locs hpg I => ?_)
      refine lv_istore hx hb d_L_law_473 hl (by decide) rfl (fun ls hl => ?_)
      have hl : lv_has ls 7 [(5, .int (nI (f_C_finish sC).1)), (4, .int (nI (5 * n))), (3, .ref oa), (2, .ref (aM 0)), (1, .ref (aC 0)), (0, .ref b)] := hl
      refine lv_aload_n hx hb d_L_law_475 rfl (lv_at hl 3 rfl) ?_
      refine lr_mI (As := []) (rest := []) (na := 0) (c_M_finish l D cI cT cH aM sM hIM hmade) ⟨hx, hb, hml, hown, hts⟩ k_560 k_561 k_562 k_28 k_563 (by decide +kernel) (by decide) hf1 G I rfl hl.1 rfl (Nat.le_of_ble_eq_true rfl) d_L_law_476 (fun H locs I => ?_)
      refine lv_istore hx hb d_L_law_479 hl (by decide) rfl (fun ls hl => ?_)
      have hl : lv_has ls 7 [(6, .int (f_M_finish sM).1), (5, .int (nI (f_C_finish sC).1)), (4, .int (nI (5 * n))), (3, .ref oa), (2, .ref (aM 0)), (1, .ref (aC 0)), (0, .ref b)] := hl
      refine lv_aload_n hx hb d_L_law_481 rfl (lv_at hl 4 rfl) ?_
      refine rdV (As := []) (rest := []) (na := 0) (c_M_thrown l D cI cT cH aM (f_M_finish sM).2) ⟨hx, hb, hml, hown, hts⟩ k_489 k_490 k_491 k_28 k_492 (by decide +kernel) (by decide) hf1 I.2.1 hK hN (q0 := 0) (ci := 4) mw_0 rfl rfl hl.1 rfl (Nat.le_of_ble_eq_true rfl) d_L_law_482 ?_
      refine lv_iload hx hb d_L_law_485 (lv_at hl 1 rfl) ?_
      have hop := op_finish hR hn9
      have hth : f_M_thrown (f_M_finish sM).2 = (nI (f_C_finish sC).1) := hop.1
      have hre : rR (n + 1) (f_C_finish sC).2.2 (f_M_finish sM).2 := hop.2.2
      have hval := hop.2.1
      refine lv_icmp_eq (tgt := 492) hx hb d_L_law_487 (by decide) (fun _ => ?_) (fun h9 => absurd hth h9)
      refine lv_iload hx hb d_L_law_492 (lv_at hl 1 rfl) ?_
      refine lv_if_ne (tgt := 509) hx hb d_L_law_494 (by decide) (fun _ => ?_) (fun h0 => ?_)
      · refine lv_goto (tgt := 806) hx hb d_L_law_509 (by decide) ?_
        exact K806 (f_C_finish sC).2.2 (f_M_finish sM).2 g1 H locs ls _ _ (by omega) (by omega) hre (lv_sub hl [2, 3, 4, 5, 6] rfl) I
      · have hz : (f_C_finish sC).1 = 0 := z0 (cl_finish sC) h0
        refine lv_aload_n hx hb d_L_law_497 rfl (lv_at hl 3 rfl) ?_
        refine lv_iconst (v := 0) hx hb d_L_law_498 (by decide) ?_
        refine va_lald hx hb hKL I.2.2.1 0 0 rfl rfl vi_01 d_L_law_499 ?_
        refine lv_iload hx hb d_L_law_500 (lv_at hl 0 rfl) ?_
        refine lv_i2l hx hb d_L_law_502 rfl ?_
        refine W.lcmp hx hb d_L_law_503 ?_
        refine lv_if_eq (tgt := 509) hx hb d_L_law_504 (by decide) (fun _ => ?_) (fun h9 => absurd (lcmp_eq ((hpg hz).trans (by rw [hval hz]))) h9)
        refine lv_goto (tgt := 806) hx hb d_L_law_509 (by decide) ?_
        exact K806 (f_C_finish sC).2.2 (f_M_finish sM).2 g1 H locs ls _ _ (by omega) (by omega) hre (lv_sub hl [2, 3, 4, 5, 6] rfl) I
    · refine lv_tableIn (off := 473) (tgt := 512) hx hb d_L_law_39 (by decide) (by decide) (by decide) (by decide) ?_
      refine lv_aload_n hx hb d_L_law_512 rfl (lv_at hl 3 rfl) ?_
      refine lv_aload_n hx hb d_L_law_513 rfl (lv_at hl 4 rfl) ?_
      refine lv_iload hx hb d_L_law_514 (lv_at hl 0 rfl) ?_
      refine lv_iconst (v := 1) hx hb d_L_law_516 (by decide) ?_
      refine lv_iadd hx hb d_L_law_517 ?_
      refine va_sld hx hb hX hbl hbA I.2.2.2 hin1 d_L_law_518 ?_
      refine W.eq (g2 := F0 m 519 ls [.int x1, .ref (aC 0)]) (by rw [hv1]) ?_
      refine lv_aload_n hx hb d_L_law_519 rfl (lv_at hl 1 rfl) ?_
      refine lr_ho (As := [.ref (aC 0), .int x1, .ref oa]) (rest := []) (na := 3) (c_L_pass l D cI cT cH cL aC sC oa g x1 hl0 hIC hrun hCo) ⟨hx, hb, hml, hown, hts⟩ k_416 k_417 k_23 k_418 (by decide +kernel) (by decide) hfh G I rfl hl.1 rfl (Nat.le_of_ble_eq_true rfl) d_L_law_520 (fun g1 H locs hpg I => ?_)
      refine lv_istore hx hb d_L_law_523 hl (by decide) rfl (fun ls hl => ?_)
      have hl : lv_has ls 7 [(5, .int (if (f_C_pass sC x1).1 = 0 then 0 else 1)), (4, .int (nI (5 * n))), (3, .ref oa), (2, .ref (aM 0)), (1, .ref (aC 0)), (0, .ref b)] := hl
      refine lv_aload_n hx hb d_L_law_525 rfl (lv_at hl 3 rfl) ?_
      refine lv_aload_n hx hb d_L_law_526 rfl (lv_at hl 5 rfl) ?_
      refine lv_iload hx hb d_L_law_527 (lv_at hl 1 rfl) ?_
      refine lv_iconst (v := 1) hx hb d_L_law_529 (by decide) ?_
      refine lv_iadd hx hb d_L_law_530 ?_
      refine va_sld hx hb hX hbl hbA I.2.2.2 hin1 d_L_law_531 ?_
      refine W.eq (g2 := F0 m 532 ls [.int x1, .ref (aM 0)]) (by rw [hv1]) ?_
      refine lr_mI (As := [.int x1]) (rest := []) (na := 1) (c_M_pass l D cI cT cH aM sM x1 hIM) ⟨hx, hb, hml, hown, hts⟩ k_564 k_565 k_566 k_28 k_567 (by decide +kernel) (by decide) hf1 G I rfl hl.1 rfl (Nat.le_of_ble_eq_true rfl) d_L_law_532 (fun H locs I => ?_)
      refine lv_istore hx hb d_L_law_535 hl (by decide) rfl (fun ls hl => ?_)
      have hl : lv_has ls 7 [(6, .int (f_M_pass sM x1).1), (5, .int (if (f_C_pass sC x1).1 = 0 then 0 else 1)), (4, .int (nI (5 * n))), (3, .ref oa), (2, .ref (aM 0)), (1, .ref (aC 0)), (0, .ref b)] := hl
      refine lv_aload_n hx hb d_L_law_537 rfl (lv_at hl 4 rfl) ?_
      refine rdV (As := []) (rest := []) (na := 0) (c_M_thrown l D cI cT cH aM (f_M_pass sM x1).2) ⟨hx, hb, hml, hown, hts⟩ k_489 k_490 k_491 k_28 k_492 (by decide +kernel) (by decide) hf1 I.2.1 hK hN (q0 := 0) (ci := 4) mw_0 rfl rfl hl.1 rfl (Nat.le_of_ble_eq_true rfl) d_L_law_538 ?_
      refine lv_iload hx hb d_L_law_541 (lv_at hl 1 rfl) ?_
      have hop := op_pass hR hn9 x1
      have hth : f_M_thrown (f_M_pass sM x1).2 = (if (f_C_pass sC x1).1 = 0 then 0 else 1) := by rcases hop with ⟨z1, z2, _⟩ | ⟨z1, z2, _⟩ <;> rw [z1] <;> exact z2
      have hre : rR (n + 1) (f_C_pass sC x1).2.2 (f_M_pass sM x1).2 := by rcases hop with ⟨_, _, z⟩ | ⟨_, _, _, z⟩ <;> exact z
      have hval : (f_C_pass sC x1).1 = 0 → (f_C_pass sC x1).2.1 = (f_M_pass sM x1).1 := fun z => hop.elim (fun q => absurd (q.1.symm.trans z) (by decide)) (fun q => q.2.2.1)
      refine lv_icmp_eq (tgt := 548) hx hb d_L_law_543 (by decide) (fun _ => ?_) (fun h9 => absurd hth h9)
      refine lv_iload hx hb d_L_law_548 (lv_at hl 1 rfl) ?_
      refine lv_if_ne (tgt := 565) hx hb d_L_law_550 (by decide) (fun _ => ?_) (fun h0 => ?_)
      · refine lv_goto (tgt := 806) hx hb d_L_law_565 (by decide) ?_
        exact K806 (f_C_pass sC x1).2.2 (f_M_pass sM x1).2 g1 H locs ls _ _ (by omega) (by omega) hre (lv_sub hl [2, 3, 4, 5, 6] rfl) I
      · have hz : (f_C_pass sC x1).1 = 0 := z0_pass h0
        refine lv_aload_n hx hb d_L_law_553 rfl (lv_at hl 3 rfl) ?_
        refine lv_iconst (v := 0) hx hb d_L_law_554 (by decide) ?_
        refine va_lald hx hb hKL I.2.2.1 0 0 rfl rfl vi_01 d_L_law_555 ?_
        refine lv_iload hx hb d_L_law_556 (lv_at hl 0 rfl) ?_
        refine lv_i2l hx hb d_L_law_558 rfl ?_
        refine W.lcmp hx hb d_L_law_559 ?_
        refine lv_if_eq (tgt := 565) hx hb d_L_law_560 (by decide) (fun _ => ?_) (fun h9 => absurd (lcmp_eq ((hpg hz).trans (by rw [hval hz]))) h9)
        refine lv_goto (tgt := 806) hx hb d_L_law_565 (by decide) ?_
        exact K806 (f_C_pass sC x1).2.2 (f_M_pass sM x1).2 g1 H locs ls _ _ (by omega) (by omega) hre (lv_sub hl [2, 3, 4, 5, 6] rfl) I
    · refine lv_tableIn (off := 529) (tgt := 568) hx hb d_L_law_39 (by decide) (by decide) (by decide) (by decide) ?_
      refine lv_aload_n hx hb d_L_law_568 rfl (lv_at hl 3 rfl) ?_
      refine rdV (As := []) (rest := []) (na := 0) (c_C_running l D cI cT cH aC sC) ⟨hx, hb, hml, hown, hts⟩ k_151 k_152 k_153 k_24 k_154 (by decide +kernel) (by decide) hf0 I.1 hK hN (q0 := 0) (ci := 0) cw_0 rfl rfl hl.1 rfl (Nat.le_of_ble_eq_true rfl) d_L_law_569 ?_
      refine lv_aload_n hx hb d_L_law_572 rfl (lv_at hl 2 rfl) ?_
      refine lr_mI (As := []) (rest := [.int (f_C_running sC)]) (na := 0) (c_M_running l D cI cT cH aM sM hIM) ⟨hx, hb, hml, hown, hts⟩ k_568 k_569 k_570 k_28 k_571 (by decide +kernel) (by decide) hf0 G I rfl hl.1 rfl (Nat.le_of_ble_eq_true rfl) d_L_law_573 (fun H locs I => ?_)
      refine lv_icmp_eq (tgt := 806) hx hb d_L_law_576 (by decide) (fun _ => ?_) (fun h9 => absurd (op_running hR).1 h9)
      exact K806 sC (f_M_running sM).2 g H locs ls _ _ (by omega) (by omega) (rR_succ (op_running hR).2) (lv_sub hl [0, 1, 2, 3, 4] rfl) I
    · refine lv_tableIn (off := 542) (tgt := 581) hx hb d_L_law_39 (by decide) (by decide) (by decide) (by decide) ?_
      refine lv_aload_n hx hb d_L_law_581 rfl (lv_at hl 3 rfl) ?_
      refine lv_aload_n hx hb d_L_law_582 rfl (lv_at hl 4 rfl) ?_
      refine lv_iload hx hb d_L_law_583 (lv_at hl 0 rfl) ?_
      refine lv_iconst (v := 1) hx hb d_L_law_585 (by decide) ?_
      refine lv_iadd hx hb d_L_law_586 ?_
      refine va_sld hx hb hX hbl hbA I.2.2.2 hin1 d_L_law_587 ?_
      refine W.eq (g2 := F0 m 588 ls [.int x1, .ref (aC 0)]) (by rw [hv1]) ?_
      refine rdV (As := [.int x1]) (rest := []) (na := 1) (c_C_priority l D cI cT cH aC sC x1) ⟨hx, hb, hml, hown, hts⟩ k_155 k_156 k_157 k_24 k_158 (by decide +kernel) (by decide) hf0 I.1 hK hN (q0 := 0) (ci := 0) cw_0 rfl rfl hl.1 rfl (Nat.le_of_ble_eq_true rfl) d_L_law_588 ?_
      refine lv_aload_n hx hb d_L_law_591 rfl (lv_at hl 2 rfl) ?_
      refine lv_aload_n hx hb d_L_law_592 rfl (lv_at hl 4 rfl) ?_
      refine lv_iload hx hb d_L_law_593 (lv_at hl 0 rfl) ?_
      refine lv_iconst (v := 1) hx hb d_L_law_595 (by decide) ?_
      refine lv_iadd hx hb d_L_law_596 ?_
      refine va_sld hx hb hX hbl hbA I.2.2.2 hin1 d_L_law_597 ?_
      refine W.eq (g2 := F0 m 598 ls [.int x1, .ref (aM 0), .int (f_C_priority sC x1)]) (by rw [hv1]) ?_
      refine lr_mI (As := [.int x1]) (rest := [.int (f_C_priority sC x1)]) (na := 1) (c_M_priority l D cI cT cH aM sM x1 hIM) ⟨hx, hb, hml, hown, hts⟩ k_572 k_573 k_574 k_28 k_575 (by decide +kernel) (by decide) hf0 G I rfl hl.1 rfl (Nat.le_of_ble_eq_true rfl) d_L_law_598 (fun H locs I => ?_)
      refine lv_icmp_eq (tgt := 806) hx hb d_L_law_601 (by decide) (fun _ => ?_) (fun h9 => absurd (op_priority hR x1).1 h9)
      exact K806 sC (f_M_priority sM x1).2 g H locs ls _ _ (by omega) (by omega) (rR_succ (op_priority hR x1).2) (lv_sub hl [0, 1, 2, 3, 4] rfl) I
    · refine lv_tableIn (off := 567) (tgt := 606) hx hb d_L_law_39 (by decide) (by decide) (by decide) (by decide) ?_
      refine lv_aload_n hx hb d_L_law_606 rfl (lv_at hl 3 rfl) ?_
      refine lv_aload_n hx hb d_L_law_607 rfl (lv_at hl 4 rfl) ?_
      refine lv_iload hx hb d_L_law_608 (lv_at hl 0 rfl) ?_
      refine lv_iconst (v := 1) hx hb d_L_law_610 (by decide) ?_
      refine lv_iadd hx hb d_L_law_611 ?_
      refine va_sld hx hb hX hbl hbA I.2.2.2 hin1 d_L_law_612 ?_
      refine W.eq (g2 := F0 m 613 ls [.int x1, .ref (aC 0)]) (by rw [hv1]) ?_
      refine rdV (As := [.int x1]) (rest := []) (na := 1) (c_C_place l D cI cT cH aC sC x1) ⟨hx, hb, hml, hown, hts⟩ k_170 k_171 k_172 k_24 k_173 (by decide +kernel) (by decide) hf0 I.1 hK hN (q0 := 0) (ci := 0) cw_0 rfl rfl hl.1 rfl (Nat.le_of_ble_eq_true rfl) d_L_law_613 ?_
      refine lv_aload_n hx hb d_L_law_616 rfl (lv_at hl 2 rfl) ?_
      refine lv_aload_n hx hb d_L_law_617 rfl (lv_at hl 4 rfl) ?_
      refine lv_iload hx hb d_L_law_618 (lv_at hl 0 rfl) ?_
      refine lv_iconst (v := 1) hx hb d_L_law_620 (by decide) ?_
      refine lv_iadd hx hb d_L_law_621 ?_
      refine va_sld hx hb hX hbl hbA I.2.2.2 hin1 d_L_law_622 ?_
      refine W.eq (g2 := F0 m 623 ls [.int x1, .ref (aM 0), .int (f_C_place sC x1)]) (by rw [hv1]) ?_
      refine lr_mI (As := [.int x1]) (rest := [.int (f_C_place sC x1)]) (na := 1) (c_M_place l D cI cT cH aM sM x1 hIM) ⟨hx, hb, hml, hown, hts⟩ k_576 k_577 k_578 k_28 k_579 (by decide +kernel) (by decide) hf0 G I rfl hl.1 rfl (Nat.le_of_ble_eq_true rfl) d_L_law_623 (fun H locs I => ?_)
      refine lv_icmp_eq (tgt := 806) hx hb d_L_law_626 (by decide) (fun _ => ?_) (fun h9 => absurd (op_place hR x1).1 h9)
      exact K806 sC (f_M_place sM x1).2 g H locs ls _ _ (by omega) (by omega) (rR_succ (op_place hR x1).2) (lv_sub hl [0, 1, 2, 3, 4] rfl) I
    · refine lv_tableIn (off := 592) (tgt := 631) hx hb d_L_law_39 (by decide) (by decide) (by decide) (by decide) ?_
      refine lv_aload_n hx hb d_L_law_631 rfl (lv_at hl 3 rfl) ?_
      refine lv_aload_n hx hb d_L_law_632 rfl (lv_at hl 4 rfl) ?_
      refine lv_iload hx hb d_L_law_633 (lv_at hl 0 rfl) ?_
      refine lv_iconst (v := 1) hx hb d_L_law_635 (by decide) ?_
      refine lv_iadd hx hb d_L_law_636 ?_
      refine va_sld hx hb hX hbl hbA I.2.2.2 hin1 d_L_law_637 ?_
      refine W.eq (g2 := F0 m 638 ls [.int x1, .ref (aC 0)]) (by rw [hv1]) ?_
      refine rdV (As := [.int x1]) (rest := []) (na := 1) (c_C_ceiling l D cI cT cH aC sC x1) ⟨hx, hb, hml, hown, hts⟩ k_182 k_183 k_184 k_24 k_185 (by decide +kernel) (by decide) hf0 I.1 hK hN (q0 := 0) (ci := 0) cw_0 rfl rfl hl.1 rfl (Nat.le_of_ble_eq_true rfl) d_L_law_638 ?_
      refine lv_aload_n hx hb d_L_law_641 rfl (lv_at hl 2 rfl) ?_
      refine lv_aload_n hx hb d_L_law_642 rfl (lv_at hl 4 rfl) ?_
      refine lv_iload hx hb d_L_law_643 (lv_at hl 0 rfl) ?_
      refine lv_iconst (v := 1) hx hb d_L_law_645 (by decide) ?_
      refine lv_iadd hx hb d_L_law_646 ?_
      refine va_sld hx hb hX hbl hbA I.2.2.2 hin1 d_L_law_647 ?_
      refine W.eq (g2 := F0 m 648 ls [.int x1, .ref (aM 0), .int (f_C_ceiling sC x1)]) (by rw [hv1]) ?_
      refine lr_mI (As := [.int x1]) (rest := [.int (f_C_ceiling sC x1)]) (na := 1) (c_M_ceiling l D cI cT cH aM sM x1 hIM) ⟨hx, hb, hml, hown, hts⟩ k_580 k_581 k_582 k_28 k_583 (by decide +kernel) (by decide) hf0 G I rfl hl.1 rfl (Nat.le_of_ble_eq_true rfl) d_L_law_648 (fun H locs I => ?_)
      refine lv_icmp_eq (tgt := 806) hx hb d_L_law_651 (by decide) (fun _ => ?_) (fun h9 => absurd (op_ceiling hR x1).1 h9)
      exact K806 sC (f_M_ceiling sM x1).2 g H locs ls _ _ (by omega) (by omega) (rR_succ (op_ceiling hR x1).2) (lv_sub hl [0, 1, 2, 3, 4] rfl) I
    · refine lv_tableIn (off := 617) (tgt := 656) hx hb d_L_law_39 (by decide) (by decide) (by decide) (by decide) ?_
      refine lv_aload_n hx hb d_L_law_656 rfl (lv_at hl 3 rfl) ?_
      refine lv_aload_n hx hb d_L_law_657 rfl (lv_at hl 4 rfl) ?_
      refine lv_iload hx hb d_L_law_658 (lv_at hl 0 rfl) ?_
      refine lv_iconst (v := 1) hx hb d_L_law_660 (by decide) ?_
      refine lv_iadd hx hb d_L_law_661 ?_
      refine va_sld hx hb hX hbl hbA I.2.2.2 hin1 d_L_law_662 ?_
      refine W.eq (g2 := F0 m 663 ls [.int x1, .ref (aC 0)]) (by rw [hv1]) ?_
      refine rdV (As := [.int x1]) (rest := []) (na := 1) (c_C_holder l D cI cT cH aC sC x1) ⟨hx, hb, hml, hown, hts⟩ k_189 k_190 k_191 k_24 k_192 (by decide +kernel) (by decide) hf0 I.1 hK hN (q0 := 0) (ci := 0) cw_0 rfl rfl hl.1 rfl (Nat.le_of_ble_eq_true rfl) d_L_law_663 ?_
      refine lv_aload_n hx hb d_L_law_666 rfl (lv_at hl 2 rfl) ?_
      refine lv_aload_n hx hb d_L_law_667 rfl (lv_at hl 4 rfl) ?_
      refine lv_iload hx hb d_L_law_668 (lv_at hl 0 rfl) ?_
      refine lv_iconst (v := 1) hx hb d_L_law_670 (by decide) ?_
      refine lv_iadd hx hb d_L_law_671 ?_
      refine va_sld hx hb hX hbl hbA I.2.2.2 hin1 d_L_law_672 ?_
      refine W.eq (g2 := F0 m 673 ls [.int x1, .ref (aM 0), .int (f_C_holder sC x1)]) (by rw [hv1]) ?_
      refine lr_mI (As := [.int x1]) (rest := [.int (f_C_holder sC x1)]) (na := 1) (c_M_holder l D cI cT cH aM sM x1 hIM) ⟨hx, hb, hml, hown, hts⟩ k_584 k_585 k_586 k_28 k_587 (by decide +kernel) (by decide) hf0 G I rfl hl.1 rfl (Nat.le_of_ble_eq_true rfl) d_L_law_673 (fun H locs I => ?_)
      refine lv_icmp_eq (tgt := 806) hx hb d_L_law_676 (by decide) (fun _ => ?_) (fun h9 => absurd (op_holder hR x1).1 h9)
      exact K806 sC (f_M_holder sM x1).2 g H locs ls _ _ (by omega) (by omega) (rR_succ (op_holder hR x1).2) (lv_sub hl [0, 1, 2, 3, 4] rfl) I
    · refine lv_tableIn (off := 642) (tgt := 681) hx hb d_L_law_39 (by decide) (by decide) (by decide) (by decide) ?_
      refine lv_aload_n hx hb d_L_law_681 rfl (lv_at hl 3 rfl) ?_
      refine lv_aload_n hx hb d_L_law_682 rfl (lv_at hl 4 rfl) ?_
      refine lv_iload hx hb d_L_law_683 (lv_at hl 0 rfl) ?_
      refine lv_iconst (v := 1) hx hb d_L_law_685 (by decide) ?_
      refine lv_iadd hx hb d_L_law_686 ?_
      refine va_sld hx hb hX hbl hbA I.2.2.2 hin1 d_L_law_687 ?_
      refine W.eq (g2 := F0 m 688 ls [.int x1, .ref (aC 0)]) (by rw [hv1]) ?_
      refine lv_aload_n hx hb d_L_law_688 rfl (lv_at hl 4 rfl) ?_
      refine lv_iload hx hb d_L_law_689 (lv_at hl 0 rfl) ?_
      refine lv_iconst (v := 2) hx hb d_L_law_691 (by decide) ?_
      refine lv_iadd hx hb d_L_law_692 ?_
      refine va_sld hx hb hX hbl hbA I.2.2.2 hin2 d_L_law_693 ?_
      refine W.eq (g2 := F0 m 694 ls [.int x2, .int x1, .ref (aC 0)]) (by rw [hv2]) ?_
      refine rdV (As := [.int x1, .int x2]) (rest := []) (na := 2) (c_C_spent l D cI cT cH aC sC x1 x2) ⟨hx, hb, hml, hown, hts⟩ k_193 k_194 k_195 k_24 k_196 (by decide +kernel) (by decide) hf0 I.1 hK hN (q0 := 0) (ci := 0) cw_0 rfl rfl hl.1 rfl (Nat.le_of_ble_eq_true rfl) d_L_law_694 ?_
      refine lv_aload_n hx hb d_L_law_697 rfl (lv_at hl 2 rfl) ?_
      refine lv_aload_n hx hb d_L_law_698 rfl (lv_at hl 4 rfl) ?_
      refine lv_iload hx hb d_L_law_699 (lv_at hl 0 rfl) ?_
      refine lv_iconst (v := 1) hx hb d_L_law_701 (by decide) ?_
      refine lv_iadd hx hb d_L_law_702 ?_
      refine va_sld hx hb hX hbl hbA I.2.2.2 hin1 d_L_law_703 ?_
      refine W.eq (g2 := F0 m 704 ls [.int x1, .ref (aM 0), .int (f_C_spent sC x1 x2)]) (by rw [hv1]) ?_
      refine lv_aload_n hx hb d_L_law_704 rfl (lv_at hl 4 rfl) ?_
      refine lv_iload hx hb d_L_law_705 (lv_at hl 0 rfl) ?_
      refine lv_iconst (v := 2) hx hb d_L_law_707 (by decide) ?_
      refine lv_iadd hx hb d_L_law_708 ?_
      refine va_sld hx hb hX hbl hbA I.2.2.2 hin2 d_L_law_709 ?_
      refine W.eq (g2 := F0 m 710 ls [.int x2, .int x1, .ref (aM 0), .int (f_C_spent sC x1 x2)]) (by rw [hv2]) ?_
      refine lr_mI (As := [.int x1, .int x2]) (rest := [.int (f_C_spent sC x1 x2)]) (na := 2) (c_M_spent l D cI cT cH aM sM x1 x2 hIM) ⟨hx, hb, hml, hown, hts⟩ k_588 k_589 k_590 k_28 k_591 (by decide +kernel) (by decide) hf0 G I rfl hl.1 rfl (Nat.le_of_ble_eq_true rfl) d_L_law_710 (fun H locs I => ?_)
      refine lv_icmp_eq (tgt := 806) hx hb d_L_law_713 (by decide) (fun _ => ?_) (fun h9 => absurd (op_spent hR x1 x2).1 h9)
      exact K806 sC (f_M_spent sM x1 x2).2 g H locs ls _ _ (by omega) (by omega) (rR_succ (op_spent hR x1 x2).2) (lv_sub hl [0, 1, 2, 3, 4] rfl) I
    · refine lv_tableIn (off := 679) (tgt := 718) hx hb d_L_law_39 (by decide) (by decide) (by decide) (by decide) ?_
      refine lv_aload_n hx hb d_L_law_718 rfl (lv_at hl 3 rfl) ?_
      refine lv_aload_n hx hb d_L_law_719 rfl (lv_at hl 4 rfl) ?_
      refine lv_iload hx hb d_L_law_720 (lv_at hl 0 rfl) ?_
      refine lv_iconst (v := 1) hx hb d_L_law_722 (by decide) ?_
      refine lv_iadd hx hb d_L_law_723 ?_
      refine va_sld hx hb hX hbl hbA I.2.2.2 hin1 d_L_law_724 ?_
      refine W.eq (g2 := F0 m 725 ls [.int x1, .ref (aC 0)]) (by rw [hv1]) ?_
      refine rdV (As := [.int x1]) (rest := []) (na := 1) (c_C_blocking l D cI cT cH aC sC x1) ⟨hx, hb, hml, hown, hts⟩ k_197 k_198 k_199 k_24 k_200 (by decide +kernel) (by decide) hf0 I.1 hK hN (q0 := 0) (ci := 0) cw_0 rfl rfl hl.1 rfl (Nat.le_of_ble_eq_true rfl) d_L_law_725 ?_
      refine lv_aload_n hx hb d_L_law_728 rfl (lv_at hl 2 rfl) ?_
      refine lv_aload_n hx hb d_L_law_729 rfl (lv_at hl 4 rfl) ?_
      refine lv_iload hx hb d_L_law_730 (lv_at hl 0 rfl) ?_
      refine lv_iconst (v := 1) hx hb d_L_law_732 (by decide) ?_
      refine lv_iadd hx hb d_L_law_733 ?_
      refine va_sld hx hb hX hbl hbA I.2.2.2 hin1 d_L_law_734 ?_
      refine W.eq (g2 := F0 m 735 ls [.int x1, .ref (aM 0), .int (f_C_blocking sC x1)]) (by rw [hv1]) ?_
      refine lr_mI (As := [.int x1]) (rest := [.int (f_C_blocking sC x1)]) (na := 1) (c_M_blocking l D cI cT cH aM sM x1 hIM) ⟨hx, hb, hml, hown, hts⟩ k_592 k_593 k_594 k_28 k_595 (by decide +kernel) (by decide) hf0 G I rfl hl.1 rfl (Nat.le_of_ble_eq_true rfl) d_L_law_735 (fun H locs I => ?_)
      refine lv_icmp_eq (tgt := 806) hx hb d_L_law_738 (by decide) (fun _ => ?_) (fun h9 => absurd (op_blocking hR x1).1 h9)
      exact K806 sC (f_M_blocking sM x1).2 g H locs ls _ _ (by omega) (by omega) (rR_succ (op_blocking hR x1).2) (lv_sub hl [0, 1, 2, 3, 4] rfl) I
    · refine lv_tableIn (off := 704) (tgt := 743) hx hb d_L_law_39 (by decide) (by decide) (by decide) (by decide) ?_
      refine lv_aload_n hx hb d_L_law_743 rfl (lv_at hl 3 rfl) ?_
      refine lv_aload_n hx hb d_L_law_744 rfl (lv_at hl 4 rfl) ?_
      refine lv_iload hx hb d_L_law_745 (lv_at hl 0 rfl) ?_
      refine lv_iconst (v := 1) hx hb d_L_law_747 (by decide) ?_
      refine lv_iadd hx hb d_L_law_748 ?_
      refine va_sld hx hb hX hbl hbA I.2.2.2 hin1 d_L_law_749 ?_
      refine W.eq (g2 := F0 m 750 ls [.int x1, .ref (aC 0)]) (by rw [hv1]) ?_
      refine rdV (As := [.int x1]) (rest := []) (na := 1) (c_C_response l D cI cT cH aC sC x1 hperC) ⟨hx, hb, hml, hown, hts⟩ k_212 k_213 k_214 k_24 k_215 (by decide +kernel) (by decide) hf0 I.1 hK hN (q0 := 0) (ci := 0) cw_0 rfl rfl hl.1 rfl (Nat.le_of_ble_eq_true rfl) d_L_law_750 ?_
      refine lv_aload_n hx hb d_L_law_753 rfl (lv_at hl 2 rfl) ?_
      refine lv_aload_n hx hb d_L_law_754 rfl (lv_at hl 4 rfl) ?_
      refine lv_iload hx hb d_L_law_755 (lv_at hl 0 rfl) ?_
      refine lv_iconst (v := 1) hx hb d_L_law_757 (by decide) ?_
      refine lv_iadd hx hb d_L_law_758 ?_
      refine va_sld hx hb hX hbl hbA I.2.2.2 hin1 d_L_law_759 ?_
      refine W.eq (g2 := F0 m 760 ls [.int x1, .ref (aM 0), .int (f_C_response sC x1)]) (by rw [hv1]) ?_
      refine lr_mI (As := [.int x1]) (rest := [.int (f_C_response sC x1)]) (na := 1) (c_M_response l D cI cT cH aM sM x1 hIM hper hpsm) ⟨hx, hb, hml, hown, hts⟩ k_600 k_601 k_602 k_28 k_603 (by decide +kernel) (by decide) hf0 G I rfl hl.1 rfl (Nat.le_of_ble_eq_true rfl) d_L_law_760 (fun H locs I => ?_)
      refine lv_icmp_eq (tgt := 806) hx hb d_L_law_763 (by decide) (fun _ => ?_) (fun h9 => absurd (op_response hR x1).1 h9)
      exact K806 sC (f_M_response sM x1).2 g H locs ls _ _ (by omega) (by omega) (rR_succ (op_response hR x1).2) (lv_sub hl [0, 1, 2, 3, 4] rfl) I
    · refine lv_tableIn (off := 729) (tgt := 768) hx hb d_L_law_39 (by decide) (by decide) (by decide) (by decide) ?_
      refine lv_aload_n hx hb d_L_law_768 rfl (lv_at hl 3 rfl) ?_
      refine rdV (As := []) (rest := []) (na := 0) (c_C_notes l D cI cT cH aC sC) ⟨hx, hb, hml, hown, hts⟩ k_225 k_226 k_227 k_24 k_228 (by decide +kernel) (by decide) hf0 I.1 hK hN (q0 := 0) (ci := 0) cw_0 rfl rfl hl.1 rfl (Nat.le_of_ble_eq_true rfl) d_L_law_769 ?_
      refine lv_aload_n hx hb d_L_law_772 rfl (lv_at hl 2 rfl) ?_
      refine lr_mI (As := []) (rest := [.int (f_C_notes sC)]) (na := 0) (c_M_notes l D cI cT cH aM sM hIM) ⟨hx, hb, hml, hown, hts⟩ k_608 k_609 k_610 k_28 k_611 (by decide +kernel) (by decide) hf0 G I rfl hl.1 rfl (Nat.le_of_ble_eq_true rfl) d_L_law_773 (fun H locs I => ?_)
      refine lv_icmp_eq (tgt := 806) hx hb d_L_law_776 (by decide) (fun _ => ?_) (fun h9 => absurd (op_notes hR).1 h9)
      exact K806 sC (f_M_notes sM).2 g H locs ls _ _ (by omega) (by omega) (rR_succ (op_notes hR).2) (lv_sub hl [0, 1, 2, 3, 4] rfl) I
    · refine lv_tableIn (off := 742) (tgt := 781) hx hb d_L_law_39 (by decide) (by decide) (by decide) (by decide) ?_
      refine lv_aload_n hx hb d_L_law_781 rfl (lv_at hl 3 rfl) ?_
      refine lv_aload_n hx hb d_L_law_782 rfl (lv_at hl 4 rfl) ?_
      refine lv_iload hx hb d_L_law_783 (lv_at hl 0 rfl) ?_
      refine lv_iconst (v := 1) hx hb d_L_law_785 (by decide) ?_
      refine lv_iadd hx hb d_L_law_786 ?_
      refine va_sld hx hb hX hbl hbA I.2.2.2 hin1 d_L_law_787 ?_
      refine W.eq (g2 := F0 m 788 ls [.int x1, .ref (aC 0)]) (by rw [hv1]) ?_
      refine rdV (As := [.int x1]) (rest := []) (na := 1) (c_C_note l D cI cT cH aC sC x1) ⟨hx, hb, hml, hown, hts⟩ k_229 k_230 k_231 k_24 k_232 (by decide +kernel) (by decide) hf0 I.1 hK hN (q0 := 0) (ci := 0) cw_0 rfl rfl hl.1 rfl (Nat.le_of_ble_eq_true rfl) d_L_law_788 ?_
      refine lv_aload_n hx hb d_L_law_791 rfl (lv_at hl 2 rfl) ?_
      refine lv_aload_n hx hb d_L_law_792 rfl (lv_at hl 4 rfl) ?_
      refine lv_iload hx hb d_L_law_793 (lv_at hl 0 rfl) ?_
      refine lv_iconst (v := 1) hx hb d_L_law_795 (by decide) ?_
      refine lv_iadd hx hb d_L_law_796 ?_
      refine va_sld hx hb hX hbl hbA I.2.2.2 hin1 d_L_law_797 ?_
      refine W.eq (g2 := F0 m 798 ls [.int x1, .ref (aM 0), .int (f_C_note sC x1)]) (by rw [hv1]) ?_
      refine lr_mI (As := [.int x1]) (rest := [.int (f_C_note sC x1)]) (na := 1) (c_M_note l D cI cT cH aM sM x1 hIM) ⟨hx, hb, hml, hown, hts⟩ k_612 k_613 k_614 k_28 k_615 (by decide +kernel) (by decide) hf0 G I rfl hl.1 rfl (Nat.le_of_ble_eq_true rfl) d_L_law_798 (fun H locs I => ?_)
      refine lv_icmp_eq (tgt := 806) hx hb d_L_law_801 (by decide) (fun _ => ?_) (fun h9 => absurd (op_note hR x1).1 h9)
      exact K806 sC (f_M_note sM x1).2 g H locs ls _ _ (by omega) (by omega) (rR_succ (op_note hR x1).2) (lv_sub hl [0, 1, 2, 3, 4] rfl) I
    · refine lv_tableOut (tgt := 806) hx hb d_L_law_39 (Or.inr (by rw [nI_toInt (by omega)]; omega)) (by decide) ?_
      exact K806 sC sM g H locs ls _ _ (by omega) (by omega) (rR_succ hR) hl I
