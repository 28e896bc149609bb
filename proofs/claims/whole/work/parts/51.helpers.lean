-- the law's helpers
theorem vi_01 : vp_in 0 1 := vp_in_nI (n := 0) (N := 1) (by decide) (by decide)
theorem lk_13 : Cond.classLink R_L 13 eS ∈ TT := tt_in 243 (by decide +kernel) (by decide +kernel)
theorem lk_15 : Cond.classLink R_L 15 eA ∈ TT := tt_in 244 (by decide +kernel) (by decide +kernel)
theorem xc_S : Cond.castable eS eS ∈ xT9 := List.mem_of_getElem? (i := 3) rfl
theorem xc_A : Cond.castable eA eA ∈ xT9 := List.mem_of_getElem? (i := 4) rfl
def hW (D : va_G) (cI cT cH : ClassId) (ad : Nat → Nat) (st : St) (U : State) : Prop := xW D cI cT cH (cw cI cT cH ad st) (inA ad 27) U ∧ va_Nc eA eS U
abbrev oE (cL : ClassId) (g : Nat → Int64) : va_E := .inl (cL, 1, .inr (.inl g))
def oW (D : va_G) (cI cT cH cL : ClassId) (ad : Nat → Nat) (st : St) (oa : Nat) (g : Nat → Int64) (U : State) : Prop := hW D cI cT cH ad st U ∧ va_P D cls9 [(oa, oE cL g)] U.heap ∧ va_K D cls9 [(cL, .long)] U
def oA (ad : Nat → Nat) (oa : Nat) : Nat → Prop := fun q => inA ad 27 q ∨ q = oa
theorem xT9_kind : ∀ w ∈ xT9, (∃ x, w = Cond.declares x) ∨ ∃ C T, w = Cond.castable C T := by
  intro w hw
  simp only [xT9, List.mem_cons, List.not_mem_nil, or_false] at hw
  rcases hw with rfl | rfl | rfl | rfl | rfl
  · exact Or.inl ⟨_, rfl⟩
  · exact Or.inl ⟨_, rfl⟩
  · exact Or.inl ⟨_, rfl⟩
  · exact Or.inr ⟨_, _, rfl⟩
  · exact Or.inr ⟨_, _, rfl⟩
theorem xT_warm {s U : State} (hW : s.WarmedH U.vm) (h : ∀ w ∈ xT9, va_Nw w s) : ∀ w ∈ xT9, va_Nw w U := fun w hw => by
  rcases xT9_kind w hw with ⟨x, rfl⟩ | ⟨C, T, rfl⟩
  · exact va_Nw.warmD hW (h _ hw)
  · exact va_Nw.warmC hW (h _ hw)
theorem xT_same {u U : State} (e : u.vm = U.vm) (h : ∀ w ∈ xT9, va_Nw w u) : ∀ w ∈ xT9, va_Nw w U := fun w hw => va_Nw.same (xT9_on w hw) e (h w hw)
theorem xR_warm {s U : State} (hW : s.WarmedH U.vm) (h : xR s) : xR U := fun q hq => by
  obtain ⟨a, ha⟩ := h q hq
  exact ⟨a, vk_R.warm hW ha⟩
theorem xR_same {u U : State} (e : U.vm = u.vm) (h : xR u) : xR U := fun q hq => by
  obtain ⟨a, ha⟩ := h q hq
  exact ⟨a, vk_R.same e ha⟩
theorem xW_blind {D : va_G} {cI cT cH : ClassId} {ws : va_W} {A : Nat → Prop} {av : List Value} : FrameBlind (va_Pc av (xW D cI cT cH ws A)) := fun a U g mk q => by
  obtain ⟨q0, ⟨qP, qK, qN⟩, z1, z2, z3, z4⟩ := q
  exact ⟨q0, ⟨qP, va_K.moved (u := U) (U := U.calling g mk a) (Vm.Alike.refl U.vm) qK, nwA.same (u := U) rfl qN⟩, vx_Zq.moved (u := U) (U := U.calling g mk a) (Vm.Alike.refl U.vm) z1, vx_Zq.moved (u := U) (U := U.calling g mk a) (Vm.Alike.refl U.vm) z2, xR_same (u := U) rfl z3, xT_same (u := U) rfl z4⟩
theorem xW_pre {D : va_G} {cI cT cH : ClassId} {ws : va_W} {A : Nat → Prop} {av : List Value} {s : State} {H : Heap} (hP : va_P D cls9 ws H) (hK : va_K D cls9 (ty9 cI cT cH) s) (hN : nwA s) (z1 : vx_Zq Bundle.tN "UNASSIGNED_STACK" Bundle.steD A s H) (z2 : vx_Zq Bundle.tN "SUPPRESSED_SENTINEL" Bundle.listD A s H) (z3 : xR s) (z4 : ∀ w ∈ xT9, va_Nw w s) : ∀ U : State, U.heap = H → s.WarmedH U.vm → va_Pc av (xW D cI cT cH ws A) av.toArray U :=
  fun U hU hW => ⟨rfl, ⟨by rw [hU]; exact hP, va_K.moved hW.alike hK, hN.warm hW⟩, by rw [hU]; exact vx_Zq.moved hW.alike z1, by rw [hU]; exact vx_Zq.moved hW.alike z2, xR_warm hW z3, xT_warm hW z4⟩
theorem hW_blind {D : va_G} {cI cT cH : ClassId} {ad : Nat → Nat} {st : St} {av : List Value} : FrameBlind (va_Pc av (hW D cI cT cH ad st)) := fun a U g mk q => by
  obtain ⟨q0, q1, q2⟩ := q
  exact ⟨q0, (xW_blind a U g mk ⟨q0, q1⟩).2, va_Nc.moved (u := U) (U := U.calling g mk a) (Vm.Alike.refl U.vm) q2⟩
theorem oW_blind {D : va_G} {cI cT cH cL : ClassId} {ad : Nat → Nat} {st : St} {oa : Nat} {g0 : Nat → Int64} {av : List Value} : FrameBlind (va_Pc av (oW D cI cT cH cL ad st oa g0)) := fun a U g mk q => by
  obtain ⟨q0, q1, q2, q3⟩ := q
  exact ⟨q0, (hW_blind a U g mk ⟨q0, q1⟩).2, q2, va_K.moved (u := U) (U := U.calling g mk a) (Vm.Alike.refl U.vm) q3⟩
theorem ocw_D {cI cT cH cL : ClassId} {ad : Nat → Nat} {st : St} {oa : Nat} {g : Nat → Int64} (hI : ∀ i j, i < 27 → j < 27 → ad i = ad j → i = j) (ho : ∀ j, j < 27 → ad j ≠ oa) : va_D (oA ad oa) ((oa, oE cL g) :: cw cI cT cH ad st) := by
  have hd := cw_D (cI := cI) (cT := cT) (cH := cH) (s := st) hI
  refine ⟨fun i j p q h1 h2 h => ?_, fun k q hk => ?_⟩
  · cases i with
    | zero =>
      cases j with
      | zero => rfl
      | succ j =>
        obtain rfl := Option.some.inj h1
        obtain ⟨k, hk, e⟩ := hd.2 j q h2
        exact absurd (e.symm.trans h.symm) (ho k hk)
    | succ i =>
      cases j with
      | zero =>
        obtain rfl := Option.some.inj h2
        obtain ⟨k, hk, e⟩ := hd.2 i p h1
        exact absurd (e.symm.trans h) (ho k hk)
      | succ j => rw [hd.1 i j p q h1 h2 h]
  · cases k with
    | zero =>
      obtain rfl := Option.some.inj hk
      exact Or.inr rfl
    | succ k => exact Or.inl (hd.2 k q hk)
theorem va_P1 {D : va_G} {cl : List vw_C} {x : Nat × va_E} {H : Heap} (h : va_at D cl x H) : va_P D cl [x] H := fun k q hk => by
  have a1 : k < 1 := (List.getElem?_eq_some_iff.mp hk).1
  have a2 : k = 0 := by omega
  subst a2
  obtain rfl := Option.some.inj hk
  exact h
theorem c_seal2 (c : St) : ¬ (f_C_seal c).1 = 2 := by
  unfold f_C_seal f_C_seal_S22
  split
  · obtain ⟨s', e, -⟩ := sealL 6 0 (wr c 0 3 1) rfl
    rw [e]
    exact (by decide : ¬ (0 : Nat) = 2)
  · exact (by decide : ¬ (1 : Nat) = 2)
theorem c_finish2 (c : St) : ¬ (f_C_finish c).1 = 2 := by
  unfold f_C_finish f_C_finish_S49 f_C_finish_S60
  split
  · exact (by decide : ¬ (1 : Nat) = 2)
  · split
    · exact (by decide : ¬ (0 : Nat) = 2)
    · exact (by decide : ¬ (1 : Nat) = 2)
theorem c_pass1 (c : St) (x : Int32) : ¬ (f_C_pass c x).1 = 1 := by
  unfold f_C_pass f_C_pass_S30 f_C_pass_S56 f_C_pass_S73
  split
  · exact (by decide : ¬ (2 : Nat) = 1)
  · split
    · exact (by decide : ¬ (0 : Nat) = 1)
    · exact (by decide : ¬ (0 : Nat) = 1)
/-- a call that is refused leaves the state as it was -/
theorem st_of_declare {st : St} {p1 p2 p3 p4 : Int32} {k : Nat} (h : (f_C_declare st p1 p2 p3 p4).1 = k + 1) : (f_C_declare st p1 p2 p3 p4).2.2 = st := by
  unfold f_C_declare f_C_declare_S91 f_C_declare_S97 at *
  repeat' split at h
  all_goals first | (simp_all; done) | (exfalso; simp at h; done) | (exfalso; omega)
theorem st_of_mayUse {st : St} {p1 p2 p3 : Int32} {k : Nat} (h : (f_C_mayUse st p1 p2 p3).1 = k + 1) : (f_C_mayUse st p1 p2 p3).2.2 = st := by
  unfold f_C_mayUse at *
  repeat' split at h
  all_goals first | (simp_all; done) | (exfalso; simp at h; done) | (exfalso; omega)
theorem st_of_seal {st : St} {k : Nat} (h : (f_C_seal st).1 = k + 1) : (f_C_seal st).2.2 = st := by
  unfold f_C_seal f_C_seal_S22 at *
  by_cases q : st 0 3 = 0
  · obtain ⟨s', e, -⟩ := sealL 6 0 (wr st 0 3 1) rfl
    rw [if_pos q, e] at h
    exact absurd (show (0 : Nat) = k + 1 from h) (by omega)
  · rw [if_neg q]
theorem st_of_release {st : St} {p1 : Int32} {k : Nat} (h : (f_C_release st p1).1 = k + 1) : (f_C_release st p1).2.2 = st := by
  unfold f_C_release f_C_release_S53 f_C_release_S66 f_C_release_S74 at *
  repeat' split at h
  all_goals first | (simp_all; done) | (exfalso; simp at h; done) | (exfalso; omega)
theorem st_of_take {st : St} {p1 : Int32} {k : Nat} (h : (f_C_take st p1).1 = k + 1) : (f_C_take st p1).2.2 = st := by
  unfold f_C_take f_C_take_S91 f_C_take_S99 f_C_take_S107 f_C_take_S112 f_C_take_S127 f_C_take_S137 at *
  repeat' split at h
  all_goals first | (simp_all; done) | (exfalso; simp at h; done) | (exfalso; omega)
theorem st_of_give {st : St} {p1 : Int32} {k : Nat} (h : (f_C_give st p1).1 = k + 1) : (f_C_give st p1).2.2 = st := by
  unfold f_C_give f_C_give_S76 f_C_give_S84 f_C_give_S89 f_C_give_S99 at *
  repeat' split at h
  all_goals first | (simp_all; done) | (exfalso; simp at h; done) | (exfalso; omega)
theorem st_of_finish {st : St} {k : Nat} (h : (f_C_finish st).1 = k + 1) : (f_C_finish st).2.2 = st := by
  unfold f_C_finish f_C_finish_S49 f_C_finish_S60 at *
  repeat' split at h
  all_goals first | (simp_all; done) | (exfalso; simp at h; done) | (exfalso; omega)
theorem st_of_pass {st : St} {p1 : Int32} {k : Nat} (h : (f_C_pass st p1).1 = k + 1) : (f_C_pass st p1).2.2 = st := by
  unfold f_C_pass f_C_pass_S30 f_C_pass_S56 f_C_pass_S73 at *
  repeat' split at h
  all_goals first | (simp_all; done) | (exfalso; simp at h; done) | (exfalso; omega)
set_option maxHeartbeats 4000000 in
set_option maxRecDepth 100000 in
theorem c_L_declare (l : Launch) (D : va_G) (cI cT cH : ClassId) (ad : Nat → Nat) (st : St) (p1 : Int32) (p2 : Int32) (p3 : Int32) (p4 : Int32) (hl0 : l.stackTraces = false) (hI : ∀ i j, i < 27 → j < 27 → ad i = ad j → i = j) : Met l y_L_declare w_L_declare { frames := 8, cells := 1, slots := 6, locals := 130 } (va_Pc [.ref (ad 0), .int p1, .int p2, .int p3, .int p4] (hW D cI cT cH ad st)) (va_Qi (S := Unit) (fun r _ => r = nI (f_C_declare st p1 p2 p3 p4).1) (fun _ t => va_P D cls9 (cw cI cT cH ad (f_C_declare st p1 p2 p3 p4).2.2) t.heap) (inA ad 27)) 1 6 (inA ad 27) := by
  refine va_MetW (cc := b_L_declare) (maxL := 6) (ret := (some .int)) (hh := [(0, 9, 12, 13), (0, 9, 16, 15)]) (by decide +kernel) rfl ?_
  intro p e s m args below meth c s₁ B hml hv
  obtain ⟨rfl, ⟨⟨hP, hK, hN⟩, hXU, hXN, hXR, hXT⟩, hNc⟩ := hv
  have hx := B.exec
  have hb := B.bytes
  have hr := B.returns
  have hlocks := B.notSynchronized
  have hts0 := atoms_spec (ws := w_L_declare) B.pre
  have hts : ∀ w ∈ TT, w.before [.ref (ad 0), .int p1, .int p2, .int p3, .int p4].toArray s = true := fun w h => hts0 w (List.mem_cons_of_mem _ h)
  have hown : s.vm.findClass R_L = some m.cls := findClass_of_methodNamed B.named
  have htab : c.exceptionTable.toList = tableOf [(0, 9, 12, 13), (0, 9, 16, 15)] := vx_table (x := y_L_declare) B (hts0 _ List.mem_cons_self)
  have hS : va_S (inA ad 27) s.heap s.heap [] := va_S.rf
  have hl := lv_entry ([.ref (ad 0), .int p1, .int p2, .int p3, .int p4]) (n := 6) (Nat.le_of_ble_eq_true rfl)
  rw [lg_entry_eq]
  generalize (lg_sl ([.ref (ad 0), .int p1, .int p2, .int p3, .int p4]) ++ List.replicate (6 - (lg_sl ([.ref (ad 0), .int p1, .int p2, .int p3, .int p4])).length) Slot.unset).toArray = ls at hl ⊢
  have hl : lv_has ls 6 [(0, .ref (ad 0)), (1, .int p1), (2, .int p2), (3, .int p3), (4, .int p4)] := hl
  refine lv_aload_n hx hb d_L_declare_0 rfl (lv_at hl 0 rfl) ?_
  refine lv_iload_n hx hb d_L_declare_1 rfl (lv_at hl 1 rfl) ?_
  refine lv_iload_n hx hb d_L_declare_2 rfl (lv_at hl 2 rfl) ?_
  refine lv_iload_n hx hb d_L_declare_3 rfl (lv_at hl 3 rfl) ?_
  refine lv_iload hx hb d_L_declare_4 (lv_at hl 4 rfl) ?_
  refine vx_callv (vx_runV (As := [.int p1, .int p2, .int p3, .int p4]) (rest := []) ⟨hx, hb, hml, hown, hts⟩ (c_C_declare l D cI cT cH ad st p1 p2 p3 p4 hl0 hI) (cwV 4 hts (gV k_245 k_246 k_247 k_24 k_248) rfl rfl rfl (by decide +kernel) (by decide)) ⟨xW_blind, va_recv (q0 := 0) (ci := 0) hK hP rfl cw_0, xW_pre hP hK hN hXU hXN hXR hXT⟩ (g := F0 m 6 ls [.int p4, .int p3, .int p2, .int p1, .ref (ad 0)]) rfl rfl hl.1 rfl (lv_room (Nat.le_of_ble_eq_true rfl)) d_L_declare_6 (by decide)) hS (fun _ _ h => h) (fun _ h => h) (fun _ _ h => h) (fun E ce q9 u t H1 locs1 ht _ _ hB hzz hkk hS1 hce hcv hcl => ?_) (fun u t H1 locs1 ht _ hpost hB hzz hkk hS1 => ?_)
  · obtain ⟨hE, hP1⟩ := hB
    have hP1 : va_P D cls9 (cw cI cT cH ad st) H1 := by rw [← ht]; exact hP1
    rcases hE with ⟨hf, rfl⟩ | ⟨hf, rfl⟩
    · refine vx_catch (own := R_L) (name := eS) hown [] ⟨0, 9, 12, 13⟩ [⟨0, 9, 16, 15⟩] (htab.trans rfl) (fun z hz => nomatch hz) rfl (by decide) (hts _ lk_13) (va_Nw.use rfl (hXT _ xc_S)) hce hcv hcl ?_
      refine lv_astore hx hb d_L_declare_12 hl (by decide) rfl (fun ls hl => ?_)
      refine lv_iconst (v := 1) hx hb d_L_declare_14 (by decide) ?_
      exact W.iret (v := 1) hx hb hr (fun t ht _ => ⟨⟨1, (), rfl, by rw [hf]; rfl, by show va_P _ _ _ t.heap; rw [ht, (st_of_declare hf)]; exact hP1⟩, hS1.F ht⟩) hS1.2.2 d_L_declare_15
    · refine vx_catch (own := R_L) (name := eA) hown [⟨0, 9, 12, 13⟩] ⟨0, 9, 16, 15⟩ [] (htab.trans rfl) (fun z hz => by rw [List.mem_singleton.mp hz]; exact Or.inr ⟨by decide, eS, hts _ lk_13, hNc⟩) rfl (by decide) (hts _ lk_15) (va_Nw.use rfl (hXT _ xc_A)) hce hcv hcl ?_
      refine lv_astore hx hb d_L_declare_16 hl (by decide) rfl (fun ls hl => ?_)
      refine lv_iconst (v := 2) hx hb d_L_declare_18 (by decide) ?_
      exact W.iret (v := 2) hx hb hr (fun t ht _ => ⟨⟨2, (), rfl, by rw [hf]; rfl, by show va_P _ _ _ t.heap; rw [ht, (st_of_declare hf)]; exact hP1⟩, hS1.F ht⟩) hS1.2.2 d_L_declare_19
  · have hB : va_P D cls9 (cw cI cT cH ad (f_C_declare st p1 p2 p3 p4).2.2) H1 := by rw [← ht]; exact hB
    have hf : (f_C_declare st p1 p2 p3 p4).1 = 0 := hpost
    refine lv_goto (tgt := 20) hx hb d_L_declare_9 (by decide) ?_
    refine lv_iconst (v := 0) hx hb d_L_declare_20 (by decide) ?_
    exact W.iret (v := 0) hx hb hr (fun t ht _ => ⟨⟨0, (), rfl, by rw [hf]; rfl, by show va_P _ _ _ t.heap; rw [ht]; exact hB⟩, hS1.F ht⟩) hS1.2.2 d_L_declare_21
set_option maxHeartbeats 4000000 in
set_option maxRecDepth 100000 in
theorem c_L_mayUse (l : Launch) (D : va_G) (cI cT cH : ClassId) (ad : Nat → Nat) (st : St) (p1 : Int32) (p2 : Int32) (p3 : Int32) (hl0 : l.stackTraces = false) (hI : ∀ i j, i < 27 → j < 27 → ad i = ad j → i = j) : Met l y_L_mayUse w_L_mayUse { frames := 8, cells := 1, slots := 6, locals := 130 } (va_Pc [.ref (ad 0), .int p1, .int p2, .int p3] (hW D cI cT cH ad st)) (va_Qi (S := Unit) (fun r _ => r = nI (f_C_mayUse st p1 p2 p3).1) (fun _ t => va_P D cls9 (cw cI cT cH ad (f_C_mayUse st p1 p2 p3).2.2) t.heap) (inA ad 27)) 1 6 (inA ad 27) := by
  refine va_MetW (cc := b_L_mayUse) (maxL := 5) (ret := (some .int)) (hh := [(0, 7, 10, 13), (0, 7, 14, 15)]) (by decide +kernel) rfl ?_
  intro p e s m args below meth c s₁ B hml hv
  obtain ⟨rfl, ⟨⟨hP, hK, hN⟩, hXU, hXN, hXR, hXT⟩, hNc⟩ := hv
  have hx := B.exec
  have hb := B.bytes
  have hr := B.returns
  have hlocks := B.notSynchronized
  have hts0 := atoms_spec (ws := w_L_mayUse) B.pre
  have hts : ∀ w ∈ TT, w.before [.ref (ad 0), .int p1, .int p2, .int p3].toArray s = true := fun w h => hts0 w (List.mem_cons_of_mem _ h)
  have hown : s.vm.findClass R_L = some m.cls := findClass_of_methodNamed B.named
  have htab : c.exceptionTable.toList = tableOf [(0, 7, 10, 13), (0, 7, 14, 15)] := vx_table (x := y_L_mayUse) B (hts0 _ List.mem_cons_self)
  have hS : va_S (inA ad 27) s.heap s.heap [] := va_S.rf
  have hl := lv_entry ([.ref (ad 0), .int p1, .int p2, .int p3]) (n := 5) (Nat.le_of_ble_eq_true rfl)
  rw [lg_entry_eq]
  generalize (lg_sl ([.ref (ad 0), .int p1, .int p2, .int p3]) ++ List.replicate (5 - (lg_sl ([.ref (ad 0), .int p1, .int p2, .int p3])).length) Slot.unset).toArray = ls at hl ⊢
  have hl : lv_has ls 5 [(0, .ref (ad 0)), (1, .int p1), (2, .int p2), (3, .int p3)] := hl
  refine lv_aload_n hx hb d_L_mayUse_0 rfl (lv_at hl 0 rfl) ?_
  refine lv_iload_n hx hb d_L_mayUse_1 rfl (lv_at hl 1 rfl) ?_
  refine lv_iload_n hx hb d_L_mayUse_2 rfl (lv_at hl 2 rfl) ?_
  refine lv_iload_n hx hb d_L_mayUse_3 rfl (lv_at hl 3 rfl) ?_
  refine vx_callv (vx_runV (As := [.int p1, .int p2, .int p3]) (rest := []) ⟨hx, hb, hml, hown, hts⟩ (c_C_mayUse l D cI cT cH ad st p1 p2 p3 hl0 hI) (cwV 3 hts (gV k_335 k_336 k_337 k_24 k_338) rfl rfl rfl (by decide +kernel) (by decide)) ⟨xW_blind, va_recv (q0 := 0) (ci := 0) hK hP rfl cw_0, xW_pre hP hK hN hXU hXN hXR hXT⟩ (g := F0 m 4 ls [.int p3, .int p2, .int p1, .ref (ad 0)]) rfl rfl hl.1 rfl (lv_room (Nat.le_of_ble_eq_true rfl)) d_L_mayUse_4 (by decide)) hS (fun _ _ h => h) (fun _ h => h) (fun _ _ h => h) (fun E ce q9 u t H1 locs1 ht _ _ hB hzz hkk hS1 hce hcv hcl => ?_) (fun u t H1 locs1 ht _ hpost hB hzz hkk hS1 => ?_)
  · obtain ⟨hE, hP1⟩ := hB
    have hP1 : va_P D cls9 (cw cI cT cH ad st) H1 := by rw [← ht]; exact hP1
    rcases hE with ⟨hf, rfl⟩ | ⟨hf, rfl⟩
    · refine vx_catch (own := R_L) (name := eS) hown [] ⟨0, 7, 10, 13⟩ [⟨0, 7, 14, 15⟩] (htab.trans rfl) (fun z hz => nomatch hz) rfl (by decide) (hts _ lk_13) (va_Nw.use rfl (hXT _ xc_S)) hce hcv hcl ?_
      refine lv_astore hx hb d_L_mayUse_10 hl (by decide) rfl (fun ls hl => ?_)
      refine lv_iconst (v := 1) hx hb d_L_mayUse_12 (by decide) ?_
      exact W.iret (v := 1) hx hb hr (fun t ht _ => ⟨⟨1, (), rfl, by rw [hf]; rfl, by show va_P _ _ _ t.heap; rw [ht, (st_of_mayUse hf)]; exact hP1⟩, hS1.F ht⟩) hS1.2.2 d_L_mayUse_13
    · refine vx_catch (own := R_L) (name := eA) hown [⟨0, 7, 10, 13⟩] ⟨0, 7, 14, 15⟩ [] (htab.trans rfl) (fun z hz => by rw [List.mem_singleton.mp hz]; exact Or.inr ⟨by decide, eS, hts _ lk_13, hNc⟩) rfl (by decide) (hts _ lk_15) (va_Nw.use rfl (hXT _ xc_A)) hce hcv hcl ?_
      refine lv_astore hx hb d_L_mayUse_14 hl (by decide) rfl (fun ls hl => ?_)
      refine lv_iconst (v := 2) hx hb d_L_mayUse_16 (by decide) ?_
      exact W.iret (v := 2) hx hb hr (fun t ht _ => ⟨⟨2, (), rfl, by rw [hf]; rfl, by show va_P _ _ _ t.heap; rw [ht, (st_of_mayUse hf)]; exact hP1⟩, hS1.F ht⟩) hS1.2.2 d_L_mayUse_17
  · have hB : va_P D cls9 (cw cI cT cH ad (f_C_mayUse st p1 p2 p3).2.2) H1 := by rw [← ht]; exact hB
    have hf : (f_C_mayUse st p1 p2 p3).1 = 0 := hpost
    refine lv_goto (tgt := 18) hx hb d_L_mayUse_7 (by decide) ?_
    refine lv_iconst (v := 0) hx hb d_L_mayUse_18 (by decide) ?_
    exact W.iret (v := 0) hx hb hr (fun t ht _ => ⟨⟨0, (), rfl, by rw [hf]; rfl, by show va_P _ _ _ t.heap; rw [ht]; exact hB⟩, hS1.F ht⟩) hS1.2.2 d_L_mayUse_19
set_option maxHeartbeats 4000000 in
set_option maxRecDepth 100000 in
theorem c_L_seal (l : Launch) (D : va_G) (cI cT cH cL : ClassId) (ad : Nat → Nat) (st : St) (oa : Nat) (g : Nat → Int64) (hl0 : l.stackTraces = false) (hI : ∀ i j, i < 27 → j < 27 → ad i = ad j → i = j) (ho : ∀ j, j < 27 → ad j ≠ oa) : Met l y_L_seal w_L_seal { frames := 8, cells := 1, slots := 6, locals := 130 } (va_Pc [.ref (ad 0), .ref oa] (oW D cI cT cH cL ad st oa g)) (va_Qi (S := Nat → Int64) (fun r g9 => r = nI (f_C_seal st).1 ∧ ((f_C_seal st).1 = 0 → g9 0 = (f_C_seal st).2.1.toInt64)) (fun g9 t => va_P D cls9 (cw cI cT cH ad (f_C_seal st).2.2) t.heap ∧ va_P D cls9 [(oa, oE cL g9)] t.heap) (oA ad oa)) 1 6 (oA ad oa) := by
  refine va_MetW (cc := b_L_seal) (maxL := 3) (ret := (some .int)) (hh := [(0, 8, 11, 13)]) (by decide +kernel) rfl ?_
  intro p e s m args below meth c s₁ B hml hv
  obtain ⟨rfl, ⟨⟨⟨hP, hK, hN⟩, hXU, hXN, hXR, hXT⟩, hNc⟩, hO, hKL⟩ := hv
  have hx := B.exec
  have hb := B.bytes
  have hr := B.returns
  have hlocks := B.notSynchronized
  have hts0 := atoms_spec (ws := w_L_seal) B.pre
  have hts : ∀ w ∈ TT, w.before [.ref (ad 0), .ref oa].toArray s = true := fun w h => hts0 w (List.mem_cons_of_mem _ h)
  have hown : s.vm.findClass R_L = some m.cls := findClass_of_methodNamed B.named
  have htab : c.exceptionTable.toList = tableOf [(0, 8, 11, 13)] := vx_table (x := y_L_seal) B (hts0 _ List.mem_cons_self)
  have hS : va_S (oA ad oa) s.heap s.heap [] := va_S.rf
  have hl := lv_entry ([.ref (ad 0), .ref oa]) (n := 3) (Nat.le_of_ble_eq_true rfl)
  rw [lg_entry_eq]
  generalize (lg_sl ([.ref (ad 0), .ref oa]) ++ List.replicate (3 - (lg_sl ([.ref (ad 0), .ref oa])).length) Slot.unset).toArray = ls at hl ⊢
  have hl : lv_has ls 3 [(0, .ref (ad 0)), (1, .ref oa)] := hl
  refine lv_aload_n hx hb d_L_seal_0 rfl (lv_at hl 1 rfl) ?_
  refine lv_iconst (v := 0) hx hb d_L_seal_1 (by decide) ?_
  refine lv_aload_n hx hb d_L_seal_2 rfl (lv_at hl 0 rfl) ?_
  refine vx_calli (vx_runV (As := []) (rest := [.int 0, .ref oa]) ⟨hx, hb, hml, hown, hts⟩ (c_C_seal l D cI cT cH ad st hl0 hI) (cwV 0 hts (gV k_344 k_345 k_346 k_24 k_347) rfl rfl rfl (by decide +kernel) (by decide)) ⟨xW_blind, va_recv (q0 := 0) (ci := 0) hK hP rfl cw_0, xW_pre hP hK hN hXU hXN hXR hXT⟩ (g := F0 m 3 ls [.ref (ad 0), .int 0, .ref oa]) rfl rfl hl.1 rfl (lv_room (Nat.le_of_ble_eq_true rfl)) d_L_seal_3 (by decide)) hS (fun q _ h => Or.inl h) (fun q h => Or.inl h) (fun q _ h => Or.inl h) (fun E ce q9 u t H1 locs1 ht _ _ hB hzz hkk hS1 hce hcv hcl => ?_) (fun r9 u t H1 locs1 ht _ hpost hB hzz hkk hS1 => ?_)
  · obtain ⟨hE, hP1⟩ := hB
    have hP1 : va_P D cls9 (cw cI cT cH ad st) H1 := by rw [← ht]; exact hP1
    have hO1 : va_P D cls9 [(oa, oE cL g)] H1 := hO.kept (fun k x hk => hkk x.1 (hO k x hk).lt (fun z => by have a1 : k < 1 := (List.getElem?_eq_some_iff.mp hk).1; have a2 : k = 0 := (by omega); subst a2; obtain rfl := Option.some.inj hk; obtain ⟨j, hj, e⟩ := z; exact ho j hj e.symm))
    rcases hE with ⟨hf, rfl⟩ | ⟨hf, rfl⟩
    · refine vx_catch (own := R_L) (name := eS) hown [] ⟨0, 8, 11, 13⟩ [] (htab.trans rfl) (fun z hz => nomatch hz) rfl (by decide) (hts _ lk_13) (va_Nw.use rfl (hXT _ xc_S)) hce hcv hcl ?_
      refine lv_astore_n hx hb d_L_seal_11 rfl hl (by decide) rfl (fun ls hl => ?_)
      refine lv_iconst (v := 1) hx hb d_L_seal_12 (by decide) ?_
      exact W.iret (v := 1) hx hb hr (fun t ht _ => ⟨⟨1, g, rfl, ⟨by rw [hf]; rfl, fun z => absurd (hf.symm.trans z) (by decide)⟩, ⟨by show va_P _ _ _ t.heap; rw [ht, (st_of_seal hf)]; exact hP1, by show va_P _ _ _ t.heap; rw [ht]; exact hO1⟩⟩, hS1.F ht⟩) hS1.2.2 d_L_seal_13
    · exact absurd hf (c_seal2 st)
  · have hB : va_P D cls9 (cw cI cT cH ad (f_C_seal st).2.2) H1 := by rw [← ht]; exact hB
    obtain ⟨hf, hr9⟩ : (f_C_seal st).1 = 0 ∧ r9 = (f_C_seal st).2.1 := hpost
    have hO1 : va_P D cls9 [(oa, oE cL g)] H1 := hO.kept (fun k x hk => hkk x.1 (hO k x hk).lt (fun z => by have a1 : k < 1 := (List.getElem?_eq_some_iff.mp hk).1; have a2 : k = 0 := (by omega); subst a2; obtain rfl := Option.some.inj hk; obtain ⟨j, hj, e⟩ := z; exact ho j hj e.symm))
    have hPo : va_P D cls9 ((oa, oE cL g) :: cw cI cT cH ad (f_C_seal st).2.2) H1 := hO1.app hB
    refine lv_i2l hx hb d_L_seal_6 rfl ?_
    refine va_last hx hb hKL hPo (ocw_D hI ho) hS1 0 0 rfl rfl vi_01 d_L_seal_7 (fun H2 locs2 hP2 _ hS2 => ?_)
    refine lv_goto (tgt := 14) hx hb d_L_seal_8 (by decide) ?_
    refine lv_iconst (v := 0) hx hb d_L_seal_14 (by decide) ?_
    exact W.iret (v := 0) hx hb hr (fun t ht _ => ⟨⟨0, vp_updL g (0 : Int32).toNatClampNeg r9.toInt64, rfl, ⟨by rw [hf]; rfl, fun _ => by rw [← hr9]; exact pk_uLs⟩, ⟨by show va_P _ _ _ t.heap; rw [ht]; exact fun k q hk => hP2 (k + 1) q hk, by show va_P _ _ _ t.heap; rw [ht]; exact va_P1 (hP2 0 _ rfl)⟩⟩, hS2.F ht⟩) hS2.2.2 d_L_seal_15
set_option maxHeartbeats 4000000 in
set_option maxRecDepth 100000 in
theorem c_L_release (l : Launch) (D : va_G) (cI cT cH cL : ClassId) (ad : Nat → Nat) (st : St) (oa : Nat) (g : Nat → Int64) (p1 : Int32) (hl0 : l.stackTraces = false) (hI : ∀ i j, i < 27 → j < 27 → ad i = ad j → i = j) (ho : ∀ j, j < 27 → ad j ≠ oa) : Met l y_L_release w_L_release { frames := 8, cells := 1, slots := 6, locals := 130 } (va_Pc [.ref (ad 0), .int p1, .ref oa] (oW D cI cT cH cL ad st oa g)) (va_Qi (S := Nat → Int64) (fun r g9 => r = nI (f_C_release st p1).1 ∧ ((f_C_release st p1).1 = 0 → g9 0 = (f_C_release st p1).2.1.toInt64)) (fun g9 t => va_P D cls9 (cw cI cT cH ad (f_C_release st p1).2.2) t.heap ∧ va_P D cls9 [(oa, oE cL g9)] t.heap) (oA ad oa)) 1 6 (oA ad oa) := by
  refine va_MetW (cc := b_L_release) (maxL := 4) (ret := (some .int)) (hh := [(0, 9, 12, 13), (0, 9, 15, 15)]) (by decide +kernel) rfl ?_
  intro p e s m args below meth c s₁ B hml hv
  obtain ⟨rfl, ⟨⟨⟨hP, hK, hN⟩, hXU, hXN, hXR, hXT⟩, hNc⟩, hO, hKL⟩ := hv
  have hx := B.exec
  have hb := B.bytes
  have hr := B.returns
  have hlocks := B.notSynchronized
  have hts0 := atoms_spec (ws := w_L_release) B.pre
  have hts : ∀ w ∈ TT, w.before [.ref (ad 0), .int p1, .ref oa].toArray s = true := fun w h => hts0 w (List.mem_cons_of_mem _ h)
  have hown : s.vm.findClass R_L = some m.cls := findClass_of_methodNamed B.named
  have htab : c.exceptionTable.toList = tableOf [(0, 9, 12, 13), (0, 9, 15, 15)] := vx_table (x := y_L_release) B (hts0 _ List.mem_cons_self)
  have hS : va_S (oA ad oa) s.heap s.heap [] := va_S.rf
  have hl := lv_entry ([.ref (ad 0), .int p1, .ref oa]) (n := 4) (Nat.le_of_ble_eq_true rfl)
  rw [lg_entry_eq]
  generalize (lg_sl ([.ref (ad 0), .int p1, .ref oa]) ++ List.replicate (4 - (lg_sl ([.ref (ad 0), .int p1, .ref oa])).length) Slot.unset).toArray = ls at hl ⊢
  have hl : lv_has ls 4 [(0, .ref (ad 0)), (1, .int p1), (2, .ref oa)] := hl
  refine lv_aload_n hx hb d_L_release_0 rfl (lv_at hl 2 rfl) ?_
  refine lv_iconst (v := 0) hx hb d_L_release_1 (by decide) ?_
  refine lv_aload_n hx hb d_L_release_2 rfl (lv_at hl 0 rfl) ?_
  refine lv_iload_n hx hb d_L_release_3 rfl (lv_at hl 1 rfl) ?_
  refine vx_calli (vx_runV (As := [.int p1]) (rest := [.int 0, .ref oa]) ⟨hx, hb, hml, hown, hts⟩ (c_C_release l D cI cT cH ad st p1 hl0 hI) (cwV 1 hts (gV k_363 k_364 k_365 k_24 k_366) rfl rfl rfl (by decide +kernel) (by decide)) ⟨xW_blind, va_recv (q0 := 0) (ci := 0) hK hP rfl cw_0, xW_pre hP hK hN hXU hXN hXR hXT⟩ (g := F0 m 4 ls [.int p1, .ref (ad 0), .int 0, .ref oa]) rfl rfl hl.1 rfl (lv_room (Nat.le_of_ble_eq_true rfl)) d_L_release_4 (by decide)) hS (fun q _ h => Or.inl h) (fun q h => Or.inl h) (fun q _ h => Or.inl h) (fun E ce q9 u t H1 locs1 ht _ _ hB hzz hkk hS1 hce hcv hcl => ?_) (fun r9 u t H1 locs1 ht _ hpost hB hzz hkk hS1 => ?_)
  · obtain ⟨hE, hP1⟩ := hB
    have hP1 : va_P D cls9 (cw cI cT cH ad st) H1 := by rw [← ht]; exact hP1
    have hO1 : va_P D cls9 [(oa, oE cL g)] H1 := hO.kept (fun k x hk => hkk x.1 (hO k x hk).lt (fun z => by have a1 : k < 1 := (List.getElem?_eq_some_iff.mp hk).1; have a2 : k = 0 := (by omega); subst a2; obtain rfl := Option.some.inj hk; obtain ⟨j, hj, e⟩ := z; exact ho j hj e.symm))
    rcases hE with ⟨hf, rfl⟩ | ⟨hf, rfl⟩
    · refine vx_catch (own := R_L) (name := eS) hown [] ⟨0, 9, 12, 13⟩ [⟨0, 9, 15, 15⟩] (htab.trans rfl) (fun z hz => nomatch hz) rfl (by decide) (hts _ lk_13) (va_Nw.use rfl (hXT _ xc_S)) hce hcv hcl ?_
      refine lv_astore_n hx hb d_L_release_12 rfl hl (by decide) rfl (fun ls hl => ?_)
      refine lv_iconst (v := 1) hx hb d_L_release_13 (by decide) ?_
      exact W.iret (v := 1) hx hb hr (fun t ht _ => ⟨⟨1, g, rfl, ⟨by rw [hf]; rfl, fun z => absurd (hf.symm.trans z) (by decide)⟩, ⟨by show va_P _ _ _ t.heap; rw [ht, (st_of_release hf)]; exact hP1, by show va_P _ _ _ t.heap; rw [ht]; exact hO1⟩⟩, hS1.F ht⟩) hS1.2.2 d_L_release_14
    · refine vx_catch (own := R_L) (name := eA) hown [⟨0, 9, 12, 13⟩] ⟨0, 9, 15, 15⟩ [] (htab.trans rfl) (fun z hz => by rw [List.mem_singleton.mp hz]; exact Or.inr ⟨by decide, eS, hts _ lk_13, hNc⟩) rfl (by decide) (hts _ lk_15) (va_Nw.use rfl (hXT _ xc_A)) hce hcv hcl ?_
      refine lv_astore_n hx hb d_L_release_15 rfl hl (by decide) rfl (fun ls hl => ?_)
      refine lv_iconst (v := 2) hx hb d_L_release_16 (by decide) ?_
      exact W.iret (v := 2) hx hb hr (fun t ht _ => ⟨⟨2, g, rfl, ⟨by rw [hf]; rfl, fun z => absurd (hf.symm.trans z) (by decide)⟩, ⟨by show va_P _ _ _ t.heap; rw [ht, (st_of_release hf)]; exact hP1, by show va_P _ _ _ t.heap; rw [ht]; exact hO1⟩⟩, hS1.F ht⟩) hS1.2.2 d_L_release_17
  · have hB : va_P D cls9 (cw cI cT cH ad (f_C_release st p1).2.2) H1 := by rw [← ht]; exact hB
    obtain ⟨hf, hr9⟩ : (f_C_release st p1).1 = 0 ∧ r9 = (f_C_release st p1).2.1 := hpost
    have hO1 : va_P D cls9 [(oa, oE cL g)] H1 := hO.kept (fun k x hk => hkk x.1 (hO k x hk).lt (fun z => by have a1 : k < 1 := (List.getElem?_eq_some_iff.mp hk).1; have a2 : k = 0 := (by omega); subst a2; obtain rfl := Option.some.inj hk; obtain ⟨j, hj, e⟩ := z; exact ho j hj e.symm))
    have hPo : va_P D cls9 ((oa, oE cL g) :: cw cI cT cH ad (f_C_release st p1).2.2) H1 := hO1.app hB
    refine lv_i2l hx hb d_L_release_7 rfl ?_
    refine va_last hx hb hKL hPo (ocw_D hI ho) hS1 0 0 rfl rfl vi_01 d_L_release_8 (fun H2 locs2 hP2 _ hS2 => ?_)
    refine lv_goto (tgt := 18) hx hb d_L_release_9 (by decide) ?_
    refine lv_iconst (v := 0) hx hb d_L_release_18 (by decide) ?_
    exact W.iret (v := 0) hx hb hr (fun t ht _ => ⟨⟨0, vp_updL g (0 : Int32).toNatClampNeg r9.toInt64, rfl, ⟨by rw [hf]; rfl, fun _ => by rw [← hr9]; exact pk_uLs⟩, ⟨by show va_P _ _ _ t.heap; rw [ht]; exact fun k q hk => hP2 (k + 1) q hk, by show va_P _ _ _ t.heap; rw [ht]; exact va_P1 (hP2 0 _ rfl)⟩⟩, hS2.F ht⟩) hS2.2.2 d_L_release_19
set_option maxHeartbeats 4000000 in
set_option maxRecDepth 100000 in
theorem c_L_take (l : Launch) (D : va_G) (cI cT cH cL : ClassId) (ad : Nat → Nat) (st : St) (oa : Nat) (g : Nat → Int64) (p1 : Int32) (hl0 : l.stackTraces = false) (hI : ∀ i j, i < 27 → j < 27 → ad i = ad j → i = j) (hy0 : st 0 6 = (-1) ∨ vp_in (st 0 6) 8) (ho : ∀ j, j < 27 → ad j ≠ oa) : Met l y_L_take w_L_take { frames := 8, cells := 1, slots := 6, locals := 130 } (va_Pc [.ref (ad 0), .int p1, .ref oa] (oW D cI cT cH cL ad st oa g)) (va_Qi (S := Nat → Int64) (fun r g9 => r = nI (f_C_take st p1).1 ∧ ((f_C_take st p1).1 = 0 → g9 0 = (f_C_take st p1).2.1.toInt64)) (fun g9 t => va_P D cls9 (cw cI cT cH ad (f_C_take st p1).2.2) t.heap ∧ va_P D cls9 [(oa, oE cL g9)] t.heap) (oA ad oa)) 1 6 (oA ad oa) := by
  refine va_MetW (cc := b_L_take) (maxL := 4) (ret := (some .int)) (hh := [(0, 9, 12, 13), (0, 9, 15, 15)]) (by decide +kernel) rfl ?_
  intro p e s m args below meth c s₁ B hml hv
  obtain ⟨rfl, ⟨⟨⟨hP, hK, hN⟩, hXU, hXN, hXR, hXT⟩, hNc⟩, hO, hKL⟩ := hv
  have hx := B.exec
  have hb := B.bytes
  have hr := B.returns
  have hlocks := B.notSynchronized
  have hts0 := atoms_spec (ws := w_L_take) B.pre
  have hts : ∀ w ∈ TT, w.before [.ref (ad 0), .int p1, .ref oa].toArray s = true := fun w h => hts0 w (List.mem_cons_of_mem _ h)
  have hown : s.vm.findClass R_L = some m.cls := findClass_of_methodNamed B.named
  have htab : c.exceptionTable.toList = tableOf [(0, 9, 12, 13), (0, 9, 15, 15)] := vx_table (x := y_L_take) B (hts0 _ List.mem_cons_self)
  have hS : va_S (oA ad oa) s.heap s.heap [] := va_S.rf
  have hl := lv_entry ([.ref (ad 0), .int p1, .ref oa]) (n := 4) (Nat.le_of_ble_eq_true rfl)
  rw [lg_entry_eq]
  generalize (lg_sl ([.ref (ad 0), .int p1, .ref oa]) ++ List.replicate (4 - (lg_sl ([.ref (ad 0), .int p1, .ref oa])).length) Slot.unset).toArray = ls at hl ⊢
  have hl : lv_has ls 4 [(0, .ref (ad 0)), (1, .int p1), (2, .ref oa)] := hl
  refine lv_aload_n hx hb d_L_take_0 rfl (lv_at hl 2 rfl) ?_
  refine lv_iconst (v := 0) hx hb d_L_take_1 (by decide) ?_
  refine lv_aload_n hx hb d_L_take_2 rfl (lv_at hl 0 rfl) ?_
  refine lv_iload_n hx hb d_L_take_3 rfl (lv_at hl 1 rfl) ?_
  refine vx_calli (vx_runV (As := [.int p1]) (rest := [.int 0, .ref oa]) ⟨hx, hb, hml, hown, hts⟩ (c_C_take l D cI cT cH ad st p1 hl0 hI hy0) (cwV 1 hts (gV k_389 k_390 k_391 k_24 k_392) rfl rfl rfl (by decide +kernel) (by decide)) ⟨xW_blind, va_recv (q0 := 0) (ci := 0) hK hP rfl cw_0, xW_pre hP hK hN hXU hXN hXR hXT⟩ (g := F0 m 4 ls [.int p1, .ref (ad 0), .int 0, .ref oa]) rfl rfl hl.1 rfl (lv_room (Nat.le_of_ble_eq_true rfl)) d_L_take_4 (by decide)) hS (fun q _ h => Or.inl h) (fun q h => Or.inl h) (fun q _ h => Or.inl h) (fun E ce q9 u t H1 locs1 ht _ _ hB hzz hkk hS1 hce hcv hcl => ?_) (fun r9 u t H1 locs1 ht _ hpost hB hzz hkk hS1 => ?_)
  · obtain ⟨hE, hP1⟩ := hB
    have hP1 : va_P D cls9 (cw cI cT cH ad st) H1 := by rw [← ht]; exact hP1
    have hO1 : va_P D cls9 [(oa, oE cL g)] H1 := hO.kept (fun k x hk => hkk x.1 (hO k x hk).lt (fun z => by have a1 : k < 1 := (List.getElem?_eq_some_iff.mp hk).1; have a2 : k = 0 := (by omega); subst a2; obtain rfl := Option.some.inj hk; obtain ⟨j, hj, e⟩ := z; exact ho j hj e.symm))
    rcases hE with ⟨hf, rfl⟩ | ⟨hf, rfl⟩
    · refine vx_catch (own := R_L) (name := eS) hown [] ⟨0, 9, 12, 13⟩ [⟨0, 9, 15, 15⟩] (htab.trans rfl) (fun z hz => nomatch hz) rfl (by decide) (hts _ lk_13) (va_Nw.use rfl (hXT _ xc_S)) hce hcv hcl ?_
      refine lv_astore_n hx hb d_L_take_12 rfl hl (by decide) rfl (fun ls hl => ?_)
      refine lv_iconst (v := 1) hx hb d_L_take_13 (by decide) ?_
      exact W.iret (v := 1) hx hb hr (fun t ht _ => ⟨⟨1, g, rfl, ⟨by rw [hf]; rfl, fun z => absurd (hf.symm.trans z) (by decide)⟩, ⟨by show va_P _ _ _ t.heap; rw [ht, (st_of_take hf)]; exact hP1, by show va_P _ _ _ t.heap; rw [ht]; exact hO1⟩⟩, hS1.F ht⟩) hS1.2.2 d_L_take_14
    · refine vx_catch (own := R_L) (name := eA) hown [⟨0, 9, 12, 13⟩] ⟨0, 9, 15, 15⟩ [] (htab.trans rfl) (fun z hz => by rw [List.mem_singleton.mp hz]; exact Or.inr ⟨by decide, eS, hts _ lk_13, hNc⟩) rfl (by decide) (hts _ lk_15) (va_Nw.use rfl (hXT _ xc_A)) hce hcv hcl ?_
      refine lv_astore_n hx hb d_L_take_15 rfl hl (by decide) rfl (fun ls hl => ?_)
      refine lv_iconst (v := 2) hx hb d_L_take_16 (by decide) ?_
      exact W.iret (v := 2) hx hb hr (fun t ht _ => ⟨⟨2, g, rfl, ⟨by rw [hf]; rfl, fun z => absurd (hf.symm.trans z) (by decide)⟩, ⟨by show va_P _ _ _ t.heap; rw [ht, (st_of_take hf)]; exact hP1, by show va_P _ _ _ t.heap; rw [ht]; exact hO1⟩⟩, hS1.F ht⟩) hS1.2.2 d_L_take_17
  · have hB : va_P D cls9 (cw cI cT cH ad (f_C_take st p1).2.2) H1 := by rw [← ht]; exact hB
    obtain ⟨hf, hr9⟩ : (f_C_take st p1).1 = 0 ∧ r9 = (f_C_take st p1).2.1 := hpost
    have hO1 : va_P D cls9 [(oa, oE cL g)] H1 := hO.kept (fun k x hk => hkk x.1 (hO k x hk).lt (fun z => by have a1 : k < 1 := (List.getElem?_eq_some_iff.mp hk).1; have a2 : k = 0 := (by omega); subst a2; obtain rfl := Option.some.inj hk; obtain ⟨j, hj, e⟩ := z; exact ho j hj e.symm))
    have hPo : va_P D cls9 ((oa, oE cL g) :: cw cI cT cH ad (f_C_take st p1).2.2) H1 := hO1.app hB
    refine lv_i2l hx hb d_L_take_7 rfl ?_
    refine va_last hx hb hKL hPo (ocw_D hI ho) hS1 0 0 rfl rfl vi_01 d_L_take_8 (fun H2 locs2 hP2 _ hS2 => ?_)
    refine lv_goto (tgt := 18) hx hb d_L_take_9 (by decide) ?_
    refine lv_iconst (v := 0) hx hb d_L_take_18 (by decide) ?_
    exact W.iret (v := 0) hx hb hr (fun t ht _ => ⟨⟨0, vp_updL g (0 : Int32).toNatClampNeg r9.toInt64, rfl, ⟨by rw [hf]; rfl, fun _ => by rw [← hr9]; exact pk_uLs⟩, ⟨by show va_P _ _ _ t.heap; rw [ht]; exact fun k q hk => hP2 (k + 1) q hk, by show va_P _ _ _ t.heap; rw [ht]; exact va_P1 (hP2 0 _ rfl)⟩⟩, hS2.F ht⟩) hS2.2.2 d_L_take_19
set_option maxHeartbeats 4000000 in
set_option maxRecDepth 100000 in
theorem c_L_give (l : Launch) (D : va_G) (cI cT cH cL : ClassId) (ad : Nat → Nat) (st : St) (oa : Nat) (g : Nat → Int64) (p1 : Int32) (hl0 : l.stackTraces = false) (hI : ∀ i j, i < 27 → j < 27 → ad i = ad j → i = j) (hy0 : st 0 6 = (-1) ∨ vp_in (st 0 6) 8) (ho : ∀ j, j < 27 → ad j ≠ oa) : Met l y_L_give w_L_give { frames := 8, cells := 1, slots := 6, locals := 130 } (va_Pc [.ref (ad 0), .int p1, .ref oa] (oW D cI cT cH cL ad st oa g)) (va_Qi (S := Nat → Int64) (fun r g9 => r = nI (f_C_give st p1).1 ∧ ((f_C_give st p1).1 = 0 → g9 0 = (f_C_give st p1).2.1.toInt64)) (fun g9 t => va_P D cls9 (cw cI cT cH ad (f_C_give st p1).2.2) t.heap ∧ va_P D cls9 [(oa, oE cL g9)] t.heap) (oA ad oa)) 1 6 (oA ad oa) := by
  refine va_MetW (cc := b_L_give) (maxL := 4) (ret := (some .int)) (hh := [(0, 9, 12, 13), (0, 9, 15, 15)]) (by decide +kernel) rfl ?_
  intro p e s m args below meth c s₁ B hml hv
  obtain ⟨rfl, ⟨⟨⟨hP, hK, hN⟩, hXU, hXN, hXR, hXT⟩, hNc⟩, hO, hKL⟩ := hv
  have hx := B.exec
  have hb := B.bytes
  have hr := B.returns
  have hlocks := B.notSynchronized
  have hts0 := atoms_spec (ws := w_L_give) B.pre
  have hts : ∀ w ∈ TT, w.before [.ref (ad 0), .int p1, .ref oa].toArray s = true := fun w h => hts0 w (List.mem_cons_of_mem _ h)
  have hown : s.vm.findClass R_L = some m.cls := findClass_of_methodNamed B.named
  have htab : c.exceptionTable.toList = tableOf [(0, 9, 12, 13), (0, 9, 15, 15)] := vx_table (x := y_L_give) B (hts0 _ List.mem_cons_self)
  have hS : va_S (oA ad oa) s.heap s.heap [] := va_S.rf
  have hl := lv_entry ([.ref (ad 0), .int p1, .ref oa]) (n := 4) (Nat.le_of_ble_eq_true rfl)
  rw [lg_entry_eq]
  generalize (lg_sl ([.ref (ad 0), .int p1, .ref oa]) ++ List.replicate (4 - (lg_sl ([.ref (ad 0), .int p1, .ref oa])).length) Slot.unset).toArray = ls at hl ⊢
  have hl : lv_has ls 4 [(0, .ref (ad 0)), (1, .int p1), (2, .ref oa)] := hl
  refine lv_aload_n hx hb d_L_give_0 rfl (lv_at hl 2 rfl) ?_
  refine lv_iconst (v := 0) hx hb d_L_give_1 (by decide) ?_
  refine lv_aload_n hx hb d_L_give_2 rfl (lv_at hl 0 rfl) ?_
  refine lv_iload_n hx hb d_L_give_3 rfl (lv_at hl 1 rfl) ?_
  refine vx_calli (vx_runV (As := [.int p1]) (rest := [.int 0, .ref oa]) ⟨hx, hb, hml, hown, hts⟩ (c_C_give l D cI cT cH ad st p1 hl0 hI hy0) (cwV 1 hts (gV k_402 k_403 k_404 k_24 k_405) rfl rfl rfl (by decide +kernel) (by decide)) ⟨xW_blind, va_recv (q0 := 0) (ci := 0) hK hP rfl cw_0, xW_pre hP hK hN hXU hXN hXR hXT⟩ (g := F0 m 4 ls [.int p1, .ref (ad 0), .int 0, .ref oa]) rfl rfl hl.1 rfl (lv_room (Nat.le_of_ble_eq_true rfl)) d_L_give_4 (by decide)) hS (fun q _ h => Or.inl h) (fun q h => Or.inl h) (fun q _ h => Or.inl h) (fun E ce q9 u t H1 locs1 ht _ _ hB hzz hkk hS1 hce hcv hcl => ?_) (fun r9 u t H1 locs1 ht _ hpost hB hzz hkk hS1 => ?_)
  · obtain ⟨hE, hP1⟩ := hB
    have hP1 : va_P D cls9 (cw cI cT cH ad st) H1 := by rw [← ht]; exact hP1
    have hO1 : va_P D cls9 [(oa, oE cL g)] H1 := hO.kept (fun k x hk => hkk x.1 (hO k x hk).lt (fun z => by have a1 : k < 1 := (List.getElem?_eq_some_iff.mp hk).1; have a2 : k = 0 := (by omega); subst a2; obtain rfl := Option.some.inj hk; obtain ⟨j, hj, e⟩ := z; exact ho j hj e.symm))
    rcases hE with ⟨hf, rfl⟩ | ⟨hf, rfl⟩
    · refine vx_catch (own := R_L) (name := eS) hown [] ⟨0, 9, 12, 13⟩ [⟨0, 9, 15, 15⟩] (htab.trans rfl) (fun z hz => nomatch hz) rfl (by decide) (hts _ lk_13) (va_Nw.use rfl (hXT _ xc_S)) hce hcv hcl ?_
      refine lv_astore_n hx hb d_L_give_12 rfl hl (by decide) rfl (fun ls hl => ?_)
      refine lv_iconst (v := 1) hx hb d_L_give_13 (by decide) ?_
      exact W.iret (v := 1) hx hb hr (fun t ht _ => ⟨⟨1, g, rfl, ⟨by rw [hf]; rfl, fun z => absurd (hf.symm.trans z) (by decide)⟩, ⟨by show va_P _ _ _ t.heap; rw [ht, (st_of_give hf)]; exact hP1, by show va_P _ _ _ t.heap; rw [ht]; exact hO1⟩⟩, hS1.F ht⟩) hS1.2.2 d_L_give_14
    · refine vx_catch (own := R_L) (name := eA) hown [⟨0, 9, 12, 13⟩] ⟨0, 9, 15, 15⟩ [] (htab.trans rfl) (fun z hz => by rw [List.mem_singleton.mp hz]; exact Or.inr ⟨by decide, eS, hts _ lk_13, hNc⟩) rfl (by decide) (hts _ lk_15) (va_Nw.use rfl (hXT _ xc_A)) hce hcv hcl ?_
      refine lv_astore_n hx hb d_L_give_15 rfl hl (by decide) rfl (fun ls hl => ?_)
      refine lv_iconst (v := 2) hx hb d_L_give_16 (by decide) ?_
      exact W.iret (v := 2) hx hb hr (fun t ht _ => ⟨⟨2, g, rfl, ⟨by rw [hf]; rfl, fun z => absurd (hf.symm.trans z) (by decide)⟩, ⟨by show va_P _ _ _ t.heap; rw [ht, (st_of_give hf)]; exact hP1, by show va_P _ _ _ t.heap; rw [ht]; exact hO1⟩⟩, hS1.F ht⟩) hS1.2.2 d_L_give_17
  · have hB : va_P D cls9 (cw cI cT cH ad (f_C_give st p1).2.2) H1 := by rw [← ht]; exact hB
    obtain ⟨hf, hr9⟩ : (f_C_give st p1).1 = 0 ∧ r9 = (f_C_give st p1).2.1 := hpost
    have hO1 : va_P D cls9 [(oa, oE cL g)] H1 := hO.kept (fun k x hk => hkk x.1 (hO k x hk).lt (fun z => by have a1 : k < 1 := (List.getElem?_eq_some_iff.mp hk).1; have a2 : k = 0 := (by omega); subst a2; obtain rfl := Option.some.inj hk; obtain ⟨j, hj, e⟩ := z; exact ho j hj e.symm))
    have hPo : va_P D cls9 ((oa, oE cL g) :: cw cI cT cH ad (f_C_give st p1).2.2) H1 := hO1.app hB
    refine lv_i2l hx hb d_L_give_7 rfl ?_
    refine va_last hx hb hKL hPo (ocw_D hI ho) hS1 0 0 rfl rfl vi_01 d_L_give_8 (fun H2 locs2 hP2 _ hS2 => ?_)
    refine lv_goto (tgt := 18) hx hb d_L_give_9 (by decide) ?_
    refine lv_iconst (v := 0) hx hb d_L_give_18 (by decide) ?_
    exact W.iret (v := 0) hx hb hr (fun t ht _ => ⟨⟨0, vp_updL g (0 : Int32).toNatClampNeg r9.toInt64, rfl, ⟨by rw [hf]; rfl, fun _ => by rw [← hr9]; exact pk_uLs⟩, ⟨by show va_P _ _ _ t.heap; rw [ht]; exact fun k q hk => hP2 (k + 1) q hk, by show va_P _ _ _ t.heap; rw [ht]; exact va_P1 (hP2 0 _ rfl)⟩⟩, hS2.F ht⟩) hS2.2.2 d_L_give_19
set_option maxHeartbeats 4000000 in
set_option maxRecDepth 100000 in
theorem c_L_finish (l : Launch) (D : va_G) (cI cT cH cL : ClassId) (ad : Nat → Nat) (st : St) (oa : Nat) (g : Nat → Int64) (hl0 : l.stackTraces = false) (hI : ∀ i j, i < 27 → j < 27 → ad i = ad j → i = j) (hy0 : st 0 6 = (-1) ∨ vp_in (st 0 6) 8) (ho : ∀ j, j < 27 → ad j ≠ oa) : Met l y_L_finish w_L_finish { frames := 8, cells := 1, slots := 6, locals := 130 } (va_Pc [.ref (ad 0), .ref oa] (oW D cI cT cH cL ad st oa g)) (va_Qi (S := Nat → Int64) (fun r g9 => r = nI (f_C_finish st).1 ∧ ((f_C_finish st).1 = 0 → g9 0 = (f_C_finish st).2.1.toInt64)) (fun g9 t => va_P D cls9 (cw cI cT cH ad (f_C_finish st).2.2) t.heap ∧ va_P D cls9 [(oa, oE cL g9)] t.heap) (oA ad oa)) 1 6 (oA ad oa) := by
  refine va_MetW (cc := b_L_finish) (maxL := 3) (ret := (some .int)) (hh := [(0, 8, 11, 13)]) (by decide +kernel) rfl ?_
  intro p e s m args below meth c s₁ B hml hv
  obtain ⟨rfl, ⟨⟨⟨hP, hK, hN⟩, hXU, hXN, hXR, hXT⟩, hNc⟩, hO, hKL⟩ := hv
  have hx := B.exec
  have hb := B.bytes
  have hr := B.returns
  have hlocks := B.notSynchronized
  have hts0 := atoms_spec (ws := w_L_finish) B.pre
  have hts : ∀ w ∈ TT, w.before [.ref (ad 0), .ref oa].toArray s = true := fun w h => hts0 w (List.mem_cons_of_mem _ h)
  have hown : s.vm.findClass R_L = some m.cls := findClass_of_methodNamed B.named
  have htab : c.exceptionTable.toList = tableOf [(0, 8, 11, 13)] := vx_table (x := y_L_finish) B (hts0 _ List.mem_cons_self)
  have hS : va_S (oA ad oa) s.heap s.heap [] := va_S.rf
  have hl := lv_entry ([.ref (ad 0), .ref oa]) (n := 3) (Nat.le_of_ble_eq_true rfl)
  rw [lg_entry_eq]
  generalize (lg_sl ([.ref (ad 0), .ref oa]) ++ List.replicate (3 - (lg_sl ([.ref (ad 0), .ref oa])).length) Slot.unset).toArray = ls at hl ⊢
  have hl : lv_has ls 3 [(0, .ref (ad 0)), (1, .ref oa)] := hl
  refine lv_aload_n hx hb d_L_finish_0 rfl (lv_at hl 1 rfl) ?_
  refine lv_iconst (v := 0) hx hb d_L_finish_1 (by decide) ?_
  refine lv_aload_n hx hb d_L_finish_2 rfl (lv_at hl 0 rfl) ?_
  refine vx_calli (vx_runV (As := []) (rest := [.int 0, .ref oa]) ⟨hx, hb, hml, hown, hts⟩ (c_C_finish l D cI cT cH ad st hl0 hI hy0) (cwV 0 hts (gV k_411 k_412 k_413 k_24 k_414) rfl rfl rfl (by decide +kernel) (by decide)) ⟨xW_blind, va_recv (q0 := 0) (ci := 0) hK hP rfl cw_0, xW_pre hP hK hN hXU hXN hXR hXT⟩ (g := F0 m 3 ls [.ref (ad 0), .int 0, .ref oa]) rfl rfl hl.1 rfl (lv_room (Nat.le_of_ble_eq_true rfl)) d_L_finish_3 (by decide)) hS (fun q _ h => Or.inl h) (fun q h => Or.inl h) (fun q _ h => Or.inl h) (fun E ce q9 u t H1 locs1 ht _ _ hB hzz hkk hS1 hce hcv hcl => ?_) (fun r9 u t H1 locs1 ht _ hpost hB hzz hkk hS1 => ?_)
  · obtain ⟨hE, hP1⟩ := hB
    have hP1 : va_P D cls9 (cw cI cT cH ad st) H1 := by rw [← ht]; exact hP1
    have hO1 : va_P D cls9 [(oa, oE cL g)] H1 := hO.kept (fun k x hk => hkk x.1 (hO k x hk).lt (fun z => by have a1 : k < 1 := (List.getElem?_eq_some_iff.mp hk).1; have a2 : k = 0 := (by omega); subst a2; obtain rfl := Option.some.inj hk; obtain ⟨j, hj, e⟩ := z; exact ho j hj e.symm))
    rcases hE with ⟨hf, rfl⟩ | ⟨hf, rfl⟩
    · refine vx_catch (own := R_L) (name := eS) hown [] ⟨0, 8, 11, 13⟩ [] (htab.trans rfl) (fun z hz => nomatch hz) rfl (by decide) (hts _ lk_13) (va_Nw.use rfl (hXT _ xc_S)) hce hcv hcl ?_
      refine lv_astore_n hx hb d_L_finish_11 rfl hl (by decide) rfl (fun ls hl => ?_)
      refine lv_iconst (v := 1) hx hb d_L_finish_12 (by decide) ?_
      exact W.iret (v := 1) hx hb hr (fun t ht _ => ⟨⟨1, g, rfl, ⟨by rw [hf]; rfl, fun z => absurd (hf.symm.trans z) (by decide)⟩, ⟨by show va_P _ _ _ t.heap; rw [ht, (st_of_finish hf)]; exact hP1, by show va_P _ _ _ t.heap; rw [ht]; exact hO1⟩⟩, hS1.F ht⟩) hS1.2.2 d_L_finish_13
    · exact absurd hf (c_finish2 st)
  · have hB : va_P D cls9 (cw cI cT cH ad (f_C_finish st).2.2) H1 := by rw [← ht]; exact hB
    obtain ⟨hf, hr9⟩ : (f_C_finish st).1 = 0 ∧ r9 = (f_C_finish st).2.1 := hpost
    have hO1 : va_P D cls9 [(oa, oE cL g)] H1 := hO.kept (fun k x hk => hkk x.1 (hO k x hk).lt (fun z => by have a1 : k < 1 := (List.getElem?_eq_some_iff.mp hk).1; have a2 : k = 0 := (by omega); subst a2; obtain rfl := Option.some.inj hk; obtain ⟨j, hj, e⟩ := z; exact ho j hj e.symm))
    have hPo : va_P D cls9 ((oa, oE cL g) :: cw cI cT cH ad (f_C_finish st).2.2) H1 := hO1.app hB
    refine lv_i2l hx hb d_L_finish_6 rfl ?_
    refine va_last hx hb hKL hPo (ocw_D hI ho) hS1 0 0 rfl rfl vi_01 d_L_finish_7 (fun H2 locs2 hP2 _ hS2 => ?_)
    refine lv_goto (tgt := 14) hx hb d_L_finish_8 (by decide) ?_
    refine lv_iconst (v := 0) hx hb d_L_finish_14 (by decide) ?_
    exact W.iret (v := 0) hx hb hr (fun t ht _ => ⟨⟨0, vp_updL g (0 : Int32).toNatClampNeg r9.toInt64, rfl, ⟨by rw [hf]; rfl, fun _ => by rw [← hr9]; exact pk_uLs⟩, ⟨by show va_P _ _ _ t.heap; rw [ht]; exact fun k q hk => hP2 (k + 1) q hk, by show va_P _ _ _ t.heap; rw [ht]; exact va_P1 (hP2 0 _ rfl)⟩⟩, hS2.F ht⟩) hS2.2.2 d_L_finish_15
set_option maxHeartbeats 4000000 in
set_option maxRecDepth 100000 in
theorem c_L_pass (l : Launch) (D : va_G) (cI cT cH cL : ClassId) (ad : Nat → Nat) (st : St) (oa : Nat) (g : Nat → Int64) (p1 : Int32) (hl0 : l.stackTraces = false) (hI : ∀ i j, i < 27 → j < 27 → ad i = ad j → i = j) (hy0 : st 0 6 = (-1) ∨ vp_in (st 0 6) 8) (ho : ∀ j, j < 27 → ad j ≠ oa) : Met l y_L_pass w_L_pass { frames := 8, cells := 1, slots := 6, locals := 130 } (va_Pc [.ref (ad 0), .int p1, .ref oa] (oW D cI cT cH cL ad st oa g)) (va_Qi (S := Nat → Int64) (fun r g9 => r = (if (f_C_pass st p1).1 = 0 then 0 else 1) ∧ ((f_C_pass st p1).1 = 0 → g9 0 = (f_C_pass st p1).2.1.toInt64)) (fun g9 t => va_P D cls9 (cw cI cT cH ad (f_C_pass st p1).2.2) t.heap ∧ va_P D cls9 [(oa, oE cL g9)] t.heap) (oA ad oa)) 1 6 (oA ad oa) := by
  refine va_MetW (cc := b_L_pass) (maxL := 4) (ret := (some .int)) (hh := [(0, 9, 12, 15)]) (by decide +kernel) rfl ?_
  intro p e s m args below meth c s₁ B hml hv
  obtain ⟨rfl, ⟨⟨⟨hP, hK, hN⟩, hXU, hXN, hXR, hXT⟩, hNc⟩, hO, hKL⟩ := hv
  have hx := B.exec
  have hb := B.bytes
  have hr := B.returns
  have hlocks := B.notSynchronized
  have hts0 := atoms_spec (ws := w_L_pass) B.pre
  have hts : ∀ w ∈ TT, w.before [.ref (ad 0), .int p1, .ref oa].toArray s = true := fun w h => hts0 w (List.mem_cons_of_mem _ h)
  have hown : s.vm.findClass R_L = some m.cls := findClass_of_methodNamed B.named
  have htab : c.exceptionTable.toList = tableOf [(0, 9, 12, 15)] := vx_table (x := y_L_pass) B (hts0 _ List.mem_cons_self)
  have hS : va_S (oA ad oa) s.heap s.heap [] := va_S.rf
  have hl := lv_entry ([.ref (ad 0), .int p1, .ref oa]) (n := 4) (Nat.le_of_ble_eq_true rfl)
  rw [lg_entry_eq]
  generalize (lg_sl ([.ref (ad 0), .int p1, .ref oa]) ++ List.replicate (4 - (lg_sl ([.ref (ad 0), .int p1, .ref oa])).length) Slot.unset).toArray = ls at hl ⊢
  have hl : lv_has ls 4 [(0, .ref (ad 0)), (1, .int p1), (2, .ref oa)] := hl
  refine lv_aload_n hx hb d_L_pass_0 rfl (lv_at hl 2 rfl) ?_
  refine lv_iconst (v := 0) hx hb d_L_pass_1 (by decide) ?_
  refine lv_aload_n hx hb d_L_pass_2 rfl (lv_at hl 0 rfl) ?_
  refine lv_iload_n hx hb d_L_pass_3 rfl (lv_at hl 1 rfl) ?_
  refine vx_calli (vx_runV (As := [.int p1]) (rest := [.int 0, .ref oa]) ⟨hx, hb, hml, hown, hts⟩ (c_C_pass l D cI cT cH ad st p1 hl0 hI hy0) (cwV 1 hts (gV k_419 k_420 k_421 k_24 k_422) rfl rfl rfl (by decide +kernel) (by decide)) ⟨xW_blind, va_recv (q0 := 0) (ci := 0) hK hP rfl cw_0, xW_pre hP hK hN hXU hXN hXR hXT⟩ (g := F0 m 4 ls [.int p1, .ref (ad 0), .int 0, .ref oa]) rfl rfl hl.1 rfl (lv_room (Nat.le_of_ble_eq_true rfl)) d_L_pass_4 (by decide)) hS (fun q _ h => Or.inl h) (fun q h => Or.inl h) (fun q _ h => Or.inl h) (fun E ce q9 u t H1 locs1 ht _ _ hB hzz hkk hS1 hce hcv hcl => ?_) (fun r9 u t H1 locs1 ht _ hpost hB hzz hkk hS1 => ?_)
  · obtain ⟨hE, hP1⟩ := hB
    have hP1 : va_P D cls9 (cw cI cT cH ad st) H1 := by rw [← ht]; exact hP1
    have hO1 : va_P D cls9 [(oa, oE cL g)] H1 := hO.kept (fun k x hk => hkk x.1 (hO k x hk).lt (fun z => by have a1 : k < 1 := (List.getElem?_eq_some_iff.mp hk).1; have a2 : k = 0 := (by omega); subst a2; obtain rfl := Option.some.inj hk; obtain ⟨j, hj, e⟩ := z; exact ho j hj e.symm))
    rcases hE with ⟨hf, rfl⟩ | ⟨hf, rfl⟩
    · exact absurd hf (c_pass1 st p1)
    · refine vx_catch (own := R_L) (name := eA) hown [] ⟨0, 9, 12, 15⟩ [] (htab.trans rfl) (fun z hz => nomatch hz) rfl (by decide) (hts _ lk_15) (va_Nw.use rfl (hXT _ xc_A)) hce hcv hcl ?_
      refine lv_astore_n hx hb d_L_pass_12 rfl hl (by decide) rfl (fun ls hl => ?_)
      refine lv_iconst (v := 1) hx hb d_L_pass_13 (by decide) ?_
      exact W.iret (v := 1) hx hb hr (fun t ht _ => ⟨⟨1, g, rfl, ⟨by rw [hf, if_neg (by decide)], fun z => absurd (hf.symm.trans z) (by decide)⟩, ⟨by show va_P _ _ _ t.heap; rw [ht, (st_of_pass hf)]; exact hP1, by show va_P _ _ _ t.heap; rw [ht]; exact hO1⟩⟩, hS1.F ht⟩) hS1.2.2 d_L_pass_14
  · have hB : va_P D cls9 (cw cI cT cH ad (f_C_pass st p1).2.2) H1 := by rw [← ht]; exact hB
    obtain ⟨hf, hr9⟩ : (f_C_pass st p1).1 = 0 ∧ r9 = (f_C_pass st p1).2.1 := hpost
    have hO1 : va_P D cls9 [(oa, oE cL g)] H1 := hO.kept (fun k x hk => hkk x.1 (hO k x hk).lt (fun z => by have a1 : k < 1 := (List.getElem?_eq_some_iff.mp hk).1; have a2 : k = 0 := (by omega); subst a2; obtain rfl := Option.some.inj hk; obtain ⟨j, hj, e⟩ := z; exact ho j hj e.symm))
    have hPo : va_P D cls9 ((oa, oE cL g) :: cw cI cT cH ad (f_C_pass st p1).2.2) H1 := hO1.app hB
    refine lv_i2l hx hb d_L_pass_7 rfl ?_
    refine va_last hx hb hKL hPo (ocw_D hI ho) hS1 0 0 rfl rfl vi_01 d_L_pass_8 (fun H2 locs2 hP2 _ hS2 => ?_)
    refine lv_goto (tgt := 15) hx hb d_L_pass_9 (by decide) ?_
    refine lv_iconst (v := 0) hx hb d_L_pass_15 (by decide) ?_
    exact W.iret (v := 0) hx hb hr (fun t ht _ => ⟨⟨0, vp_updL g (0 : Int32).toNatClampNeg r9.toInt64, rfl, ⟨by rw [hf, if_pos rfl], fun _ => by rw [← hr9]; exact pk_uLs⟩, ⟨by show va_P _ _ _ t.heap; rw [ht]; exact fun k q hk => hP2 (k + 1) q hk, by show va_P _ _ _ t.heap; rw [ht]; exact va_P1 (hP2 0 _ rfl)⟩⟩, hS2.F ht⟩) hS2.2.2 d_L_pass_16
