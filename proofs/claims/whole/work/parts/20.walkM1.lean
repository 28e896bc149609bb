set_option maxHeartbeats 4000000 in
set_option maxRecDepth 100000 in
theorem c_M_thrown (l : Launch) (D : va_G) (cI cT cH : ClassId) (ad : Nat → Nat) (st : St) : Met l y_M_thrown w_M_thrown { frames := 0, cells := 0, slots := 0, locals := 0 } (va_Pc [.ref (ad 0)] (gW D cI cT cH (mw cI ad st))) (QcRead (f_M_thrown st)) 0 0 (fun _ => False) := by
  refine Met.ofW (cc := b_M_thrown) (maxL := 1) (ret := (some .int)) (by decide +kernel) rfl ?_
  intro p e s m args below meth c s₁ B hml hv
  obtain ⟨rfl, hP, hK, hN⟩ := hv
  have hx := B.exec
  have hb := B.bytes
  have hr := B.returns
  have hlocks := B.notSynchronized
  have hts0 := atoms_spec (ws := w_M_thrown) B.pre
  have hts : ∀ w ∈ TT, w.before [.ref (ad 0)].toArray s = true := fun w h => hts0 w (List.mem_cons_of_mem _ h)
  have hown : s.vm.findClass R_M = some m.cls := findClass_of_methodNamed B.named
  have hl := lv_entry ([.ref (ad 0)]) (n := 1) (Nat.le_of_ble_eq_true rfl)
  rw [lg_entry_eq]
  generalize (lg_sl ([.ref (ad 0)]) ++ List.replicate (1 - (lg_sl ([.ref (ad 0)])).length) Slot.unset).toArray = ls at hl ⊢
  have hl : lv_has ls 1 [(0, .ref (ad 0))] := hl
  have he := f_M_thrown.eq_1 st
  refine lv_aload_n hx hb d_M_thrown_0 rfl (lv_at hl 0 rfl) ?_
  refine va_get (D := D) (ci := 4) (v := .int (st 0 0)) (C := R_M) (T := F_M) (N := 18) hx hb hts in_M hown hK hP 0 mw_0 rfl 0 (by decide) (hts _ k_434) (fun _ h9 => h9) rfl d_M_thrown_1 ?_
  exact W.iret (v := (st 0 0)) hx hb hr (fun t ht _ => ⟨by rw [he], ht⟩) (fun _ h => nomatch h) d_M_thrown_4
set_option maxHeartbeats 4000000 in
set_option maxRecDepth 100000 in
theorem c_M_refuses (l : Launch) (D : va_G) (cI cT cH : ClassId) (ad : Nat → Nat) (st : St) (p1 : Int32) (p2 : Int32) (hI : ∀ i j, i < 13 → j < 13 → ad i = ad j → i = j) : Met l y_M_refuses w_M_refuses { frames := 0, cells := 0, slots := 0, locals := 0 } (va_Pc [.ref (ad 0), .int p1, .int p2] (gW D cI cT cH (mw cI ad st))) (qI D (f_M_refuses st p1 p2).1 (mw cI ad ((f_M_refuses st p1 p2).2)) (inA ad 13)) 0 0 (inA ad 13) := by
  refine Met.ofW (cc := b_M_refuses) (maxL := 3) (ret := (some .boolean)) (by decide +kernel) rfl ?_
  intro p e s m args below meth c s₁ B hml hv
  obtain ⟨rfl, hP, hK, hN⟩ := hv
  have hx := B.exec
  have hb := B.bytes
  have hr := B.returns
  have hlocks := B.notSynchronized
  have hts0 := atoms_spec (ws := w_M_refuses) B.pre
  have hts : ∀ w ∈ TT, w.before [.ref (ad 0), .int p1, .int p2].toArray s = true := fun w h => hts0 w (List.mem_cons_of_mem _ h)
  have hown : s.vm.findClass R_M = some m.cls := findClass_of_methodNamed B.named
  have hS : va_S (inA ad 13) s.heap s.heap [] := va_S.rf
  have hl := lv_entry ([.ref (ad 0), .int p1, .int p2]) (n := 3) (Nat.le_of_ble_eq_true rfl)
  rw [lg_entry_eq]
  generalize (lg_sl ([.ref (ad 0), .int p1, .int p2]) ++ List.replicate (3 - (lg_sl ([.ref (ad 0), .int p1, .int p2])).length) Slot.unset).toArray = ls at hl ⊢
  have hl : lv_has ls 3 [(0, .ref (ad 0)), (1, .int p1), (2, .int p2)] := hl
  have J18 : ∀ (x1 : Int32) (sl : St) (H : Heap) (locs : List Loc) (ls : Array Slot), lv_has ls 3 [(0, .ref (ad 0))] → va_P D cls9 (mw cI ad sl) H → va_S (inA ad 13) s.heap H locs → f_M_refuses st p1 p2 = f_M_refuses_B18 sl x1 → W p l e (headSpec w_M_refuses { frames := 0, cells := 0, slots := 0, locals := 0 }).room s m [.ref (ad 0), .int p1, .int p2].toArray below meth c H locs 0 0 (MQ below (qI D (f_M_refuses st p1 p2).1 (mw cI ad ((f_M_refuses st p1 p2).2)) (inA ad 13)) [.ref (ad 0), .int p1, .int p2].toArray s 0 0 (inA ad 13)) (F0 m 18 ls [.int x1, .ref (ad 0)]) := by
    intro x1 sl H locs ls hl hP hS he
    rw [f_M_refuses_B18] at he
    refine va_put (D := D) (ci := 4) (v := .int x1) (ty := .int) (C := R_M) (T := F_M) (N := 18) hx hb hts in_M ft_M ft_M_ok n_M hown hK hP (mw_D hI) hS 0 mw_0 rfl 0 (by decide) (hts _ k_434) (fun _ h9 => h9) rfl (by decide +kernel) rfl rfl (Nat.le_of_ble_eq_true rfl) d_M_refuses_18 (fun H locs hP _ hS => ?_)
    rw [mp_0 (k := 0) (by decide)] at hP
    generalize hw2 : wr sl 0 0 x1 = sw1 at hP he
    refine W.eq (g2 := F0 m 21 ls []) rfl ?_
    rw [f_M_refuses_S21] at he
    refine lv_aload_n hx hb d_M_refuses_21 rfl (lv_at hl 0 rfl) ?_
    refine va_get (D := D) (ci := 4) (v := .int (sw1 0 0)) (C := R_M) (T := F_M) (N := 18) hx hb hts in_M hown hK hP 0 mw_0 rfl 0 (by decide) (hts _ k_434) (fun _ h9 => h9) rfl d_M_refuses_22 ?_
    refine lv_if_le (tgt := 32) hx hb d_M_refuses_25 (by decide) (fun hc3 => ?_) (fun hc3 => ?_)
    · have he := he.trans (if_pos hc3)
      refine lv_iconst (v := 0) hx hb d_M_refuses_32 (by decide) ?_
      exact W.zret (v := 0) hx hb hr (by decide) (fun t ht _ => ⟨⟨0, (), rfl, by rw [he], (by rw [he]; show va_P _ _ _ t.heap; rw [ht]; exact hP)⟩, hS.F ht⟩) hS.2.2 d_M_refuses_33
    · have he := he.trans (if_neg hc3)
      refine lv_iconst (v := 1) hx hb d_M_refuses_28 (by decide) ?_
      refine lv_goto (tgt := 33) hx hb d_M_refuses_29 (by decide) ?_
      exact W.zret (v := 1) hx hb hr (by decide) (fun t ht _ => ⟨⟨1, (), rfl, by rw [he], (by rw [he]; show va_P _ _ _ t.heap; rw [ht]; exact hP)⟩, hS.F ht⟩) hS.2.2 d_M_refuses_33
  have he := f_M_refuses.eq_1 st p1 p2
  refine lv_aload_n hx hb d_M_refuses_0 rfl (lv_at hl 0 rfl) ?_
  refine lv_iload_n hx hb d_M_refuses_1 rfl (lv_at hl 1 rfl) ?_
  refine lv_if_eq (tgt := 9) hx hb d_M_refuses_2 (by decide) (fun hc4 => ?_) (fun hc4 => ?_)
  · have he := he.trans (if_pos hc4)
    refine lv_iload_n hx hb d_M_refuses_9 rfl (lv_at hl 2 rfl) ?_
    refine lv_if_eq (tgt := 17) hx hb d_M_refuses_10 (by decide) (fun hc5 => ?_) (fun hc5 => ?_)
    · have he := he.trans (if_pos hc5)
      refine lv_iconst (v := 0) hx hb d_M_refuses_17 (by decide) ?_
      exact J18 0 st s.heap [] ls (lv_sub hl [0] rfl) hP hS he
    · have he := he.trans (if_neg hc5)
      refine lv_iconst (v := 2) hx hb d_M_refuses_13 (by decide) ?_
      refine lv_goto (tgt := 18) hx hb d_M_refuses_14 (by decide) ?_
      exact J18 2 st s.heap [] ls (lv_sub hl [0] rfl) hP hS he
  · have he := he.trans (if_neg hc4)
    refine lv_iconst (v := 1) hx hb d_M_refuses_5 (by decide) ?_
    refine lv_goto (tgt := 18) hx hb d_M_refuses_6 (by decide) ?_
    exact J18 1 st s.heap [] ls (lv_sub hl [0] rfl) hP hS he
set_option maxHeartbeats 4000000 in
set_option maxRecDepth 100000 in
theorem c_M_isTask (l : Launch) (p0 : Int32) : Met l y_M_isTask w_M_isTask { frames := 0, cells := 0, slots := 0, locals := 0 } (va_Pc [.int p0] (fun _ => True)) (QcRead (f_M_isTask p0)) 0 0 (fun _ => False) := by
  refine Met.ofW (cc := b_M_isTask) (maxL := 1) (ret := (some .boolean)) (by decide +kernel) rfl ?_
  intro p e s m args below meth c s₁ B hml hv
  obtain ⟨rfl, -⟩ := hv
  have hx := B.exec
  have hb := B.bytes
  have hr := B.returns
  have hlocks := B.notSynchronized
  have hts0 := atoms_spec (ws := w_M_isTask) B.pre
  have hts : ∀ w ∈ TT, w.before [.int p0].toArray s = true := fun w h => hts0 w (List.mem_cons_of_mem _ h)
  have hown : s.vm.findClass R_M = some m.cls := findClass_of_methodNamed B.named
  have hl := lv_entry ([.int p0]) (n := 1) (Nat.le_of_ble_eq_true rfl)
  rw [lg_entry_eq]
  generalize (lg_sl ([.int p0]) ++ List.replicate (1 - (lg_sl ([.int p0])).length) Slot.unset).toArray = ls at hl ⊢
  have hl : lv_has ls 1 [(0, .int p0)] := hl
  have he := f_M_isTask.eq_1 p0
  refine lv_iload_n hx hb d_M_isTask_0 rfl (lv_at hl 0 rfl) ?_
  refine lv_if_lt (tgt := 14) hx hb d_M_isTask_1 (by decide) (fun hc1 => ?_) (fun hc1 => ?_)
  · have he := he.trans (if_pos hc1)
    refine lv_iconst (v := 0) hx hb d_M_isTask_14 (by decide) ?_
    exact W.zret (v := 0) hx hb hr (by decide) (fun t ht _ => ⟨by rw [he], ht⟩) (fun _ h => nomatch h) d_M_isTask_15
  · have he := he.trans (if_neg hc1)
    refine lv_iload_n hx hb d_M_isTask_4 rfl (lv_at hl 0 rfl) ?_
    refine lv_bipush (v := 8) hx hb d_M_isTask_5 (by decide) ?_
    refine lv_icmp_ge (tgt := 14) hx hb d_M_isTask_7 (by decide) (fun hc2 => ?_) (fun hc2 => ?_)
    · have he := he.trans (if_pos hc2)
      refine lv_iconst (v := 0) hx hb d_M_isTask_14 (by decide) ?_
      exact W.zret (v := 0) hx hb hr (by decide) (fun t ht _ => ⟨by rw [he], ht⟩) (fun _ h => nomatch h) d_M_isTask_15
    · have he := he.trans (if_neg hc2)
      refine lv_iconst (v := 1) hx hb d_M_isTask_10 (by decide) ?_
      refine lv_goto (tgt := 15) hx hb d_M_isTask_11 (by decide) ?_
      exact W.zret (v := 1) hx hb hr (by decide) (fun t ht _ => ⟨by rw [he], ht⟩) (fun _ h => nomatch h) d_M_isTask_15
set_option maxHeartbeats 4000000 in
set_option maxRecDepth 100000 in
theorem c_M_isThing (l : Launch) (p0 : Int32) : Met l y_M_isThing w_M_isThing { frames := 0, cells := 0, slots := 0, locals := 0 } (va_Pc [.int p0] (fun _ => True)) (QcRead (f_M_isThing p0)) 0 0 (fun _ => False) := by
  refine Met.ofW (cc := b_M_isThing) (maxL := 1) (ret := (some .boolean)) (by decide +kernel) rfl ?_
  intro p e s m args below meth c s₁ B hml hv
  obtain ⟨rfl, -⟩ := hv
  have hx := B.exec
  have hb := B.bytes
  have hr := B.returns
  have hlocks := B.notSynchronized
  have hts0 := atoms_spec (ws := w_M_isThing) B.pre
  have hts : ∀ w ∈ TT, w.before [.int p0].toArray s = true := fun w h => hts0 w (List.mem_cons_of_mem _ h)
  have hown : s.vm.findClass R_M = some m.cls := findClass_of_methodNamed B.named
  have hl := lv_entry ([.int p0]) (n := 1) (Nat.le_of_ble_eq_true rfl)
  rw [lg_entry_eq]
  generalize (lg_sl ([.int p0]) ++ List.replicate (1 - (lg_sl ([.int p0])).length) Slot.unset).toArray = ls at hl ⊢
  have hl : lv_has ls 1 [(0, .int p0)] := hl
  have he := f_M_isThing.eq_1 p0
  refine lv_iload_n hx hb d_M_isThing_0 rfl (lv_at hl 0 rfl) ?_
  refine lv_if_lt (tgt := 14) hx hb d_M_isThing_1 (by decide) (fun hc1 => ?_) (fun hc1 => ?_)
  · have he := he.trans (if_pos hc1)
    refine lv_iconst (v := 0) hx hb d_M_isThing_14 (by decide) ?_
    exact W.zret (v := 0) hx hb hr (by decide) (fun t ht _ => ⟨by rw [he], ht⟩) (fun _ h => nomatch h) d_M_isThing_15
  · have he := he.trans (if_neg hc1)
    refine lv_iload_n hx hb d_M_isThing_4 rfl (lv_at hl 0 rfl) ?_
    refine lv_bipush (v := 6) hx hb d_M_isThing_5 (by decide) ?_
    refine lv_icmp_ge (tgt := 14) hx hb d_M_isThing_7 (by decide) (fun hc2 => ?_) (fun hc2 => ?_)
    · have he := he.trans (if_pos hc2)
      refine lv_iconst (v := 0) hx hb d_M_isThing_14 (by decide) ?_
      exact W.zret (v := 0) hx hb hr (by decide) (fun t ht _ => ⟨by rw [he], ht⟩) (fun _ h => nomatch h) d_M_isThing_15
    · have he := he.trans (if_neg hc2)
      refine lv_iconst (v := 1) hx hb d_M_isThing_10 (by decide) ?_
      refine lv_goto (tgt := 15) hx hb d_M_isThing_11 (by decide) ?_
      exact W.zret (v := 1) hx hb hr (by decide) (fun t ht _ => ⟨by rw [he], ht⟩) (fun _ h => nomatch h) d_M_isThing_15
set_option maxHeartbeats 4000000 in
set_option maxRecDepth 100000 in
theorem c_M_isDeclared (l : Launch) (D : va_G) (cI cT cH : ClassId) (ad : Nat → Nat) (st : St) (p1 : Int32) : Met l y_M_isDeclared w_M_isDeclared { frames := 1, cells := 0, slots := 0, locals := 20 } (va_Pc [.ref (ad 0), .int p1] (gW D cI cT cH (mw cI ad st))) (QcRead (f_M_isDeclared st p1)) 0 0 (fun _ => False) := by
  refine Met.ofW (cc := b_M_isDeclared) (maxL := 2) (ret := (some .boolean)) (by decide +kernel) rfl ?_
  intro p e s m args below meth c s₁ B hml hv
  obtain ⟨rfl, hP, hK, hN⟩ := hv
  have hx := B.exec
  have hb := B.bytes
  have hr := B.returns
  have hlocks := B.notSynchronized
  have hts0 := atoms_spec (ws := w_M_isDeclared) B.pre
  have hts : ∀ w ∈ TT, w.before [.ref (ad 0), .int p1].toArray s = true := fun w h => hts0 w (List.mem_cons_of_mem _ h)
  have hown : s.vm.findClass R_M = some m.cls := findClass_of_methodNamed B.named
  have hl := lv_entry ([.ref (ad 0), .int p1]) (n := 2) (Nat.le_of_ble_eq_true rfl)
  rw [lg_entry_eq]
  generalize (lg_sl ([.ref (ad 0), .int p1]) ++ List.replicate (2 - (lg_sl ([.ref (ad 0), .int p1])).length) Slot.unset).toArray = ls at hl ⊢
  have hl : lv_has ls 2 [(0, .ref (ad 0)), (1, .int p1)] := hl
  have he := f_M_isDeclared.eq_1 st p1
  refine lv_iload_n hx hb d_M_isDeclared_0 rfl (lv_at hl 1 rfl) ?_
  refine rdS (As := [.int p1]) (rest := []) (na := 1) (c_M_isTask l p1 ) ⟨hx, hb, hml, hown, hts⟩ k_497 k_498 k_28 k_499 (by decide +kernel) (by decide) (by decide) rfl hl.1 rfl (Nat.le_of_ble_eq_true rfl) d_M_isDeclared_1 ?_
  refine lv_if_eq (tgt := 20) hx hb d_M_isDeclared_4 (by decide) (fun hc1 => ?_) (fun hc1 => ?_)
  · have he := he.trans (if_pos hc1)
    refine lv_iconst (v := 0) hx hb d_M_isDeclared_20 (by decide) ?_
    exact W.zret (v := 0) hx hb hr (by decide) (fun t ht _ => ⟨by rw [he], ht⟩) (fun _ h => nomatch h) d_M_isDeclared_21
  · have he := he.trans (if_neg hc1)
    refine lv_aload_n hx hb d_M_isDeclared_7 rfl (lv_at hl 0 rfl) ?_
    refine va_get (D := D) (ci := 4) (v := .ref (ad 1)) (C := R_M) (T := F_M) (N := 18) hx hb hts in_M hown hK hP 0 mw_0 rfl 4 (by decide) (hts _ k_438) (fun _ h9 => h9) rfl d_M_isDeclared_8 ?_
    refine lv_iload_n hx hb d_M_isDeclared_11 rfl (lv_at hl 1 rfl) ?_
    have hi2 : vp_in p1 8 := (by first | with_reducible assumption | exact vi_isIn7 (by with_reducible assumption) | exact vi_isThing (by with_reducible assumption) | exact vi_decl (by with_reducible assumption) | exact vi_ready (by with_reducible assumption) | exact vi_run (by with_reducible assumption) (by with_reducible assumption) | exact vi_run (by with_reducible assumption) (vi_runner _) | exact vi_mTask (by with_reducible assumption) | exact vi_mThing (by with_reducible assumption) | exact vi_mdecl (by with_reducible assumption) | exact vi_mready (by with_reducible assumption))
    refine va_iald hx hb hK hP 1 0 mw_1 rfl hi2 d_M_isDeclared_12 ?_
    refine W.eq (g2 := F0 m 13 ls [.int (st 1 p1.toNatClampNeg)]) rfl ?_
    refine lv_if_le (tgt := 20) hx hb d_M_isDeclared_13 (by decide) (fun hc3 => ?_) (fun hc3 => ?_)
    · have he := he.trans (if_pos hc3)
      refine lv_iconst (v := 0) hx hb d_M_isDeclared_20 (by decide) ?_
      exact W.zret (v := 0) hx hb hr (by decide) (fun t ht _ => ⟨by rw [he], ht⟩) (fun _ h => nomatch h) d_M_isDeclared_21
    · have he := he.trans (if_neg hc3)
      refine lv_iconst (v := 1) hx hb d_M_isDeclared_16 (by decide) ?_
      refine lv_goto (tgt := 21) hx hb d_M_isDeclared_17 (by decide) ?_
      exact W.zret (v := 1) hx hb hr (by decide) (fun t ht _ => ⟨by rw [he], ht⟩) (fun _ h => nomatch h) d_M_isDeclared_21
set_option maxHeartbeats 4000000 in
set_option maxRecDepth 100000 in
theorem c_M_isReady (l : Launch) (D : va_G) (cI cT cH : ClassId) (ad : Nat → Nat) (st : St) (p1 : Int32) : Met l y_M_isReady w_M_isReady { frames := 1, cells := 0, slots := 0, locals := 20 } (va_Pc [.ref (ad 0), .int p1] (gW D cI cT cH (mw cI ad st))) (QcRead (f_M_isReady st p1)) 0 0 (fun _ => False) := by
  refine Met.ofW (cc := b_M_isReady) (maxL := 2) (ret := (some .boolean)) (by decide +kernel) rfl ?_
  intro p e s m args below meth c s₁ B hml hv
  obtain ⟨rfl, hP, hK, hN⟩ := hv
  have hx := B.exec
  have hb := B.bytes
  have hr := B.returns
  have hlocks := B.notSynchronized
  have hts0 := atoms_spec (ws := w_M_isReady) B.pre
  have hts : ∀ w ∈ TT, w.before [.ref (ad 0), .int p1].toArray s = true := fun w h => hts0 w (List.mem_cons_of_mem _ h)
  have hown : s.vm.findClass R_M = some m.cls := findClass_of_methodNamed B.named
  have hl := lv_entry ([.ref (ad 0), .int p1]) (n := 2) (Nat.le_of_ble_eq_true rfl)
  rw [lg_entry_eq]
  generalize (lg_sl ([.ref (ad 0), .int p1]) ++ List.replicate (2 - (lg_sl ([.ref (ad 0), .int p1])).length) Slot.unset).toArray = ls at hl ⊢
  have hl : lv_has ls 2 [(0, .ref (ad 0)), (1, .int p1)] := hl
  have he := f_M_isReady.eq_1 st p1
  refine lv_iload_n hx hb d_M_isReady_0 rfl (lv_at hl 1 rfl) ?_
  refine rdS (As := [.int p1]) (rest := []) (na := 1) (c_M_isTask l p1 ) ⟨hx, hb, hml, hown, hts⟩ k_497 k_498 k_28 k_499 (by decide +kernel) (by decide) (by decide) rfl hl.1 rfl (Nat.le_of_ble_eq_true rfl) d_M_isReady_1 ?_
  refine lv_if_eq (tgt := 20) hx hb d_M_isReady_4 (by decide) (fun hc1 => ?_) (fun hc1 => ?_)
  · have he := he.trans (if_pos hc1)
    refine lv_iconst (v := 0) hx hb d_M_isReady_20 (by decide) ?_
    exact W.zret (v := 0) hx hb hr (by decide) (fun t ht _ => ⟨by rw [he], ht⟩) (fun _ h => nomatch h) d_M_isReady_21
  · have he := he.trans (if_neg hc1)
    refine lv_aload_n hx hb d_M_isReady_7 rfl (lv_at hl 0 rfl) ?_
    refine va_get (D := D) (ci := 4) (v := .ref (ad 4)) (C := R_M) (T := F_M) (N := 18) hx hb hts in_M hown hK hP 0 mw_0 rfl 7 (by decide) (hts _ k_441) (fun _ h9 => h9) rfl d_M_isReady_8 ?_
    refine lv_iload_n hx hb d_M_isReady_11 rfl (lv_at hl 1 rfl) ?_
    have hi2 : vp_in p1 8 := (by first | with_reducible assumption | exact vi_isIn7 (by with_reducible assumption) | exact vi_isThing (by with_reducible assumption) | exact vi_decl (by with_reducible assumption) | exact vi_ready (by with_reducible assumption) | exact vi_run (by with_reducible assumption) (by with_reducible assumption) | exact vi_run (by with_reducible assumption) (vi_runner _) | exact vi_mTask (by with_reducible assumption) | exact vi_mThing (by with_reducible assumption) | exact vi_mdecl (by with_reducible assumption) | exact vi_mready (by with_reducible assumption))
    refine va_iald hx hb hK hP 4 0 mw_4 rfl hi2 d_M_isReady_12 ?_
    refine W.eq (g2 := F0 m 13 ls [.int (st 4 p1.toNatClampNeg)]) rfl ?_
    refine lv_if_le (tgt := 20) hx hb d_M_isReady_13 (by decide) (fun hc3 => ?_) (fun hc3 => ?_)
    · have he := he.trans (if_pos hc3)
      refine lv_iconst (v := 0) hx hb d_M_isReady_20 (by decide) ?_
      exact W.zret (v := 0) hx hb hr (by decide) (fun t ht _ => ⟨by rw [he], ht⟩) (fun _ h => nomatch h) d_M_isReady_21
    · have he := he.trans (if_neg hc3)
      refine lv_iconst (v := 1) hx hb d_M_isReady_16 (by decide) ?_
      refine lv_goto (tgt := 21) hx hb d_M_isReady_17 (by decide) ?_
      exact W.zret (v := 1) hx hb hr (by decide) (fun t ht _ => ⟨by rw [he], ht⟩) (fun _ h => nomatch h) d_M_isReady_21
set_option maxHeartbeats 4000000 in
set_option maxRecDepth 100000 in
theorem c_M_isFirst (l : Launch) (D : va_G) (cI cT cH : ClassId) (ad : Nat → Nat) (st : St) (p1 : Int32) (p2 : Int32) (hy0 : vp_in p1 8) (hy1 : vp_in p2 8) : Met l y_M_isFirst w_M_isFirst { frames := 0, cells := 0, slots := 0, locals := 0 } (va_Pc [.ref (ad 0), .int p1, .int p2] (gW D cI cT cH (mw cI ad st))) (QcRead (f_M_isFirst st p1 p2)) 0 0 (fun _ => False) := by
  refine Met.ofW (cc := b_M_isFirst) (maxL := 3) (ret := (some .boolean)) (by decide +kernel) rfl ?_
  intro p e s m args below meth c s₁ B hml hv
  obtain ⟨rfl, hP, hK, hN⟩ := hv
  have hx := B.exec
  have hb := B.bytes
  have hr := B.returns
  have hlocks := B.notSynchronized
  have hts0 := atoms_spec (ws := w_M_isFirst) B.pre
  have hts : ∀ w ∈ TT, w.before [.ref (ad 0), .int p1, .int p2].toArray s = true := fun w h => hts0 w (List.mem_cons_of_mem _ h)
  have hown : s.vm.findClass R_M = some m.cls := findClass_of_methodNamed B.named
  have hl := lv_entry ([.ref (ad 0), .int p1, .int p2]) (n := 3) (Nat.le_of_ble_eq_true rfl)
  rw [lg_entry_eq]
  generalize (lg_sl ([.ref (ad 0), .int p1, .int p2]) ++ List.replicate (3 - (lg_sl ([.ref (ad 0), .int p1, .int p2])).length) Slot.unset).toArray = ls at hl ⊢
  have hl : lv_has ls 3 [(0, .ref (ad 0)), (1, .int p1), (2, .int p2)] := hl
  have he := f_M_isFirst.eq_1 st p1 p2
  refine lv_aload_n hx hb d_M_isFirst_0 rfl (lv_at hl 0 rfl) ?_
  refine va_get (D := D) (ci := 4) (v := .ref (ad 5)) (C := R_M) (T := F_M) (N := 18) hx hb hts in_M hown hK hP 0 mw_0 rfl 8 (by decide) (hts _ k_442) (fun _ h9 => h9) rfl d_M_isFirst_1 ?_
  refine lv_iload_n hx hb d_M_isFirst_4 rfl (lv_at hl 1 rfl) ?_
  have hi1 : vp_in p1 8 := (by first | with_reducible assumption | exact vi_isIn7 (by with_reducible assumption) | exact vi_isThing (by with_reducible assumption) | exact vi_decl (by with_reducible assumption) | exact vi_ready (by with_reducible assumption) | exact vi_run (by with_reducible assumption) (by with_reducible assumption) | exact vi_run (by with_reducible assumption) (vi_runner _) | exact vi_mTask (by with_reducible assumption) | exact vi_mThing (by with_reducible assumption) | exact vi_mdecl (by with_reducible assumption) | exact vi_mready (by with_reducible assumption))
  refine va_iald hx hb hK hP 5 0 mw_5 rfl hi1 d_M_isFirst_5 ?_
  refine W.eq (g2 := F0 m 6 ls [.int (st 5 p1.toNatClampNeg)]) rfl ?_
  refine lv_aload_n hx hb d_M_isFirst_6 rfl (lv_at hl 0 rfl) ?_
  refine va_get (D := D) (ci := 4) (v := .ref (ad 5)) (C := R_M) (T := F_M) (N := 18) hx hb hts in_M hown hK hP 0 mw_0 rfl 8 (by decide) (hts _ k_442) (fun _ h9 => h9) rfl d_M_isFirst_7 ?_
  refine lv_iload_n hx hb d_M_isFirst_10 rfl (lv_at hl 2 rfl) ?_
  have hi2 : vp_in p2 8 := (by first | with_reducible assumption | exact vi_isIn7 (by with_reducible assumption) | exact vi_isThing (by with_reducible assumption) | exact vi_decl (by with_reducible assumption) | exact vi_ready (by with_reducible assumption) | exact vi_run (by with_reducible assumption) (by with_reducible assumption) | exact vi_run (by with_reducible assumption) (vi_runner _) | exact vi_mTask (by with_reducible assumption) | exact vi_mThing (by with_reducible assumption) | exact vi_mdecl (by with_reducible assumption) | exact vi_mready (by with_reducible assumption))
  refine va_iald hx hb hK hP 5 0 mw_5 rfl hi2 d_M_isFirst_11 ?_
  refine W.eq (g2 := F0 m 12 ls [.int (st 5 p2.toNatClampNeg), .int (st 5 p1.toNatClampNeg)]) rfl ?_
  refine lv_icmp_gt (tgt := 45) hx hb d_M_isFirst_12 (by decide) (fun hc3 => ?_) (fun hc3 => ?_)
  · have he := he.trans (if_pos hc3)
    refine lv_iconst (v := 1) hx hb d_M_isFirst_45 (by decide) ?_
    refine lv_goto (tgt := 50) hx hb d_M_isFirst_46 (by decide) ?_
    exact W.zret (v := 1) hx hb hr (by decide) (fun t ht _ => ⟨by rw [he], ht⟩) (fun _ h => nomatch h) d_M_isFirst_50
  · have he := he.trans (if_neg hc3)
    refine lv_aload_n hx hb d_M_isFirst_15 rfl (lv_at hl 0 rfl) ?_
    refine va_get (D := D) (ci := 4) (v := .ref (ad 5)) (C := R_M) (T := F_M) (N := 18) hx hb hts in_M hown hK hP 0 mw_0 rfl 8 (by decide) (hts _ k_442) (fun _ h9 => h9) rfl d_M_isFirst_16 ?_
    refine lv_iload_n hx hb d_M_isFirst_19 rfl (lv_at hl 1 rfl) ?_
    have hi4 : vp_in p1 8 := (by first | with_reducible assumption | exact vi_isIn7 (by with_reducible assumption) | exact vi_isThing (by with_reducible assumption) | exact vi_decl (by with_reducible assumption) | exact vi_ready (by with_reducible assumption) | exact vi_run (by with_reducible assumption) (by with_reducible assumption) | exact vi_run (by with_reducible assumption) (vi_runner _) | exact vi_mTask (by with_reducible assumption) | exact vi_mThing (by with_reducible assumption) | exact vi_mdecl (by with_reducible assumption) | exact vi_mready (by with_reducible assumption))
    refine va_iald hx hb hK hP 5 0 mw_5 rfl hi4 d_M_isFirst_20 ?_
    refine W.eq (g2 := F0 m 21 ls [.int (st 5 p1.toNatClampNeg)]) rfl ?_
    refine lv_aload_n hx hb d_M_isFirst_21 rfl (lv_at hl 0 rfl) ?_
    refine va_get (D := D) (ci := 4) (v := .ref (ad 5)) (C := R_M) (T := F_M) (N := 18) hx hb hts in_M hown hK hP 0 mw_0 rfl 8 (by decide) (hts _ k_442) (fun _ h9 => h9) rfl d_M_isFirst_22 ?_
    refine lv_iload_n hx hb d_M_isFirst_25 rfl (lv_at hl 2 rfl) ?_
    have hi5 : vp_in p2 8 := (by first | with_reducible assumption | exact vi_isIn7 (by with_reducible assumption) | exact vi_isThing (by with_reducible assumption) | exact vi_decl (by with_reducible assumption) | exact vi_ready (by with_reducible assumption) | exact vi_run (by with_reducible assumption) (by with_reducible assumption) | exact vi_run (by with_reducible assumption) (vi_runner _) | exact vi_mTask (by with_reducible assumption) | exact vi_mThing (by with_reducible assumption) | exact vi_mdecl (by with_reducible assumption) | exact vi_mready (by with_reducible assumption))
    refine va_iald hx hb hK hP 5 0 mw_5 rfl hi5 d_M_isFirst_26 ?_
    refine W.eq (g2 := F0 m 27 ls [.int (st 5 p2.toNatClampNeg), .int (st 5 p1.toNatClampNeg)]) rfl ?_
    refine lv_icmp_ne (tgt := 49) hx hb d_M_isFirst_27 (by decide) (fun hc6 => ?_) (fun hc6 => ?_)
    · have he := he.trans (if_neg hc6)
      refine lv_iconst (v := 0) hx hb d_M_isFirst_49 (by decide) ?_
      exact W.zret (v := 0) hx hb hr (by decide) (fun t ht _ => ⟨by rw [he], ht⟩) (fun _ h => nomatch h) d_M_isFirst_50
    · have he := he.trans (if_pos hc6)
      refine lv_aload_n hx hb d_M_isFirst_30 rfl (lv_at hl 0 rfl) ?_
      refine va_get (D := D) (ci := 4) (v := .ref (ad 4)) (C := R_M) (T := F_M) (N := 18) hx hb hts in_M hown hK hP 0 mw_0 rfl 7 (by decide) (hts _ k_441) (fun _ h9 => h9) rfl d_M_isFirst_31 ?_
      refine lv_iload_n hx hb d_M_isFirst_34 rfl (lv_at hl 1 rfl) ?_
      have hi7 : vp_in p1 8 := (by first | with_reducible assumption | exact vi_isIn7 (by with_reducible assumption) | exact vi_isThing (by with_reducible assumption) | exact vi_decl (by with_reducible assumption) | exact vi_ready (by with_reducible assumption) | exact vi_run (by with_reducible assumption) (by with_reducible assumption) | exact vi_run (by with_reducible assumption) (vi_runner _) | exact vi_mTask (by with_reducible assumption) | exact vi_mThing (by with_reducible assumption) | exact vi_mdecl (by with_reducible assumption) | exact vi_mready (by with_reducible assumption))
      refine va_iald hx hb hK hP 4 0 mw_4 rfl hi7 d_M_isFirst_35 ?_
      refine W.eq (g2 := F0 m 36 ls [.int (st 4 p1.toNatClampNeg)]) rfl ?_
      refine lv_aload_n hx hb d_M_isFirst_36 rfl (lv_at hl 0 rfl) ?_
      refine va_get (D := D) (ci := 4) (v := .ref (ad 4)) (C := R_M) (T := F_M) (N := 18) hx hb hts in_M hown hK hP 0 mw_0 rfl 7 (by decide) (hts _ k_441) (fun _ h9 => h9) rfl d_M_isFirst_37 ?_
      refine lv_iload_n hx hb d_M_isFirst_40 rfl (lv_at hl 2 rfl) ?_
      have hi8 : vp_in p2 8 := (by first | with_reducible assumption | exact vi_isIn7 (by with_reducible assumption) | exact vi_isThing (by with_reducible assumption) | exact vi_decl (by with_reducible assumption) | exact vi_ready (by with_reducible assumption) | exact vi_run (by with_reducible assumption) (by with_reducible assumption) | exact vi_run (by with_reducible assumption) (vi_runner _) | exact vi_mTask (by with_reducible assumption) | exact vi_mThing (by with_reducible assumption) | exact vi_mdecl (by with_reducible assumption) | exact vi_mready (by with_reducible assumption))
      refine va_iald hx hb hK hP 4 0 mw_4 rfl hi8 d_M_isFirst_41 ?_
      refine W.eq (g2 := F0 m 42 ls [.int (st 4 p2.toNatClampNeg), .int (st 4 p1.toNatClampNeg)]) rfl ?_
      refine lv_icmp_ge (tgt := 49) hx hb d_M_isFirst_42 (by decide) (fun hc9 => ?_) (fun hc9 => ?_)
      · have he := he.trans (if_pos hc9)
        refine lv_iconst (v := 0) hx hb d_M_isFirst_49 (by decide) ?_
        exact W.zret (v := 0) hx hb hr (by decide) (fun t ht _ => ⟨by rw [he], ht⟩) (fun _ h => nomatch h) d_M_isFirst_50
      · have he := he.trans (if_neg hc9)
        refine lv_iconst (v := 1) hx hb d_M_isFirst_45 (by decide) ?_
        refine lv_goto (tgt := 50) hx hb d_M_isFirst_46 (by decide) ?_
        exact W.zret (v := 1) hx hb hr (by decide) (fun t ht _ => ⟨by rw [he], ht⟩) (fun _ h => nomatch h) d_M_isFirst_50
set_option maxHeartbeats 4000000 in
set_option maxRecDepth 100000 in
theorem c_M_runner (l : Launch) (D : va_G) (cI cT cH : ClassId) (ad : Nat → Nat) (st : St) : Met l y_M_runner w_M_runner { frames := 1, cells := 0, slots := 0, locals := 22 } (va_Pc [.ref (ad 0)] (gW D cI cT cH (mw cI ad st))) (QcRead (f_M_runner st)) 0 0 (fun _ => False) := by
  refine Met.ofW (cc := b_M_runner) (maxL := 3) (ret := (some .int)) (by decide +kernel) rfl ?_
  intro p e s m args below meth c s₁ B hml hv
  obtain ⟨rfl, hP, hK, hN⟩ := hv
  have hx := B.exec
  have hb := B.bytes
  have hr := B.returns
  have hlocks := B.notSynchronized
  have hts0 := atoms_spec (ws := w_M_runner) B.pre
  have hts : ∀ w ∈ TT, w.before [.ref (ad 0)].toArray s = true := fun w h => hts0 w (List.mem_cons_of_mem _ h)
  have hown : s.vm.findClass R_M = some m.cls := findClass_of_methodNamed B.named
  have hl := lv_entry ([.ref (ad 0)]) (n := 3) (Nat.le_of_ble_eq_true rfl)
  rw [lg_entry_eq]
  generalize (lg_sl ([.ref (ad 0)]) ++ List.replicate (3 - (lg_sl ([.ref (ad 0)])).length) Slot.unset).toArray = ls at hl ⊢
  have hl : lv_has ls 3 [(0, .ref (ad 0))] := hl
  have L4 : ∀ (n i : Nat) (v1 : Int32) (ls : Array Slot), i + n = 8 → lv_has ls 3 [(0, .ref (ad 0)), (1, .int v1), (2, .int (nI i))] → (v1 = (-1) ∨ vp_in v1 8) → f_M_runner st = f_M_runner_L4 n i st v1 → W p l e (headSpec w_M_runner { frames := 1, cells := 0, slots := 0, locals := 22 }).room s m [.ref (ad 0)].toArray below meth c s.heap [] 0 0 (MQ below (QcRead (f_M_runner st)) [.ref (ad 0)].toArray s 0 0 (fun _ => False)) (F0 m 4 ls []) := by
    intro n
    induction n with
    | zero =>
      intro i v1 ls hcnt hl g0 he
      have hz : i = 8 := by omega
      subst hz
      rw [f_M_runner_L4] at he
      refine lv_iload_n hx hb d_M_runner_4 rfl (lv_at hl 2 rfl) ?_
      refine lv_bipush (v := 8) hx hb d_M_runner_5 (by decide) ?_
      refine lv_icmp_ge (tgt := 45) hx hb d_M_runner_7 (by decide) (fun _ => ?_) (fun h9 => absurd (by decide) h9)
      refine lv_iload_n hx hb d_M_runner_45 rfl (lv_at hl 1 rfl) ?_
      exact W.iret (v := v1) hx hb hr (fun t ht _ => ⟨by rw [he], ht⟩) (fun _ h => nomatch h) d_M_runner_46
    | succ n ih =>
      intro i v1 ls hcnt hl g0 he
      have hi8 : i < 8 := by omega
      rw [f_M_runner_L4] at he
      refine lv_iload_n hx hb d_M_runner_4 rfl (lv_at hl 2 rfl) ?_
      refine lv_bipush (v := 8) hx hb d_M_runner_5 (by decide) ?_
      refine lv_icmp_ge (tgt := 45) hx hb d_M_runner_7 (by decide) (fun h9 => absurd h9 (nlt_8 hi8)) (fun _ => ?_)
      refine lv_aload_n hx hb d_M_runner_10 rfl (lv_at hl 0 rfl) ?_
      refine va_get (D := D) (ci := 4) (v := .ref (ad 4)) (C := R_M) (T := F_M) (N := 18) hx hb hts in_M hown hK hP 0 mw_0 rfl 7 (by decide) (hts _ k_441) (fun _ h9 => h9) rfl d_M_runner_11 ?_
      refine lv_iload_n hx hb d_M_runner_14 rfl (lv_at hl 2 rfl) ?_
      have hi1 : vp_in (nI i) 8 := (vp_in_nI (by omega) (by decide))
      refine va_iald hx hb hK hP 4 0 mw_4 rfl hi1 d_M_runner_15 ?_
      rw [show (nI i).toNatClampNeg = i from nI_clamp (by omega)]
      refine W.eq (g2 := F0 m 16 ls [.int (st 4 i)]) rfl ?_
      refine lv_if_le (tgt := 37) hx hb d_M_runner_16 (by decide) (fun hc2 => ?_) (fun hc2 => ?_)
      · have he := he.trans (if_pos hc2)
        refine lv_iload_n hx hb d_M_runner_37 rfl (lv_at hl 1 rfl) ?_
        refine lv_istore_n hx hb d_M_runner_38 rfl hl (by decide) rfl (fun ls hl => ?_)
        have hl : lv_has ls 3 [(1, .int v1), (0, .ref (ad 0)), (2, .int (nI i))] := hl
        refine lv_iinc (k := 2) (v := (nI (i + 1))) hx hb d_M_runner_39 hl rfl (by first | rfl | (rw [nI_succ]; rfl)) (by decide) rfl (fun ls hl => ?_)
        have hl : lv_has ls 3 [(2, .int (nI (i + 1))), (1, .int v1), (0, .ref (ad 0))] := hl
        refine lv_goto (tgt := 4) hx hb d_M_runner_42 (by decide) ?_
        exact ih (i + 1) v1 ls (by omega) (lv_sub hl [2, 1, 0] rfl) (by first | with_reducible assumption | exact Or.inl rfl | exact (fun h9 => absurd h9 (by decide)) | exact (fun h9 => absurd rfl h9) | exact vi_runner _ | exact Or.inr (vp_in_nI (by omega) (by decide)) | exact Or.inr (by first | with_reducible assumption | exact vi_isIn7 (by with_reducible assumption) | exact vi_isThing (by with_reducible assumption) | exact vi_decl (by with_reducible assumption) | exact vi_ready (by with_reducible assumption) | exact vi_run (by with_reducible assumption) (by with_reducible assumption) | exact vi_run (by with_reducible assumption) (vi_runner _) | exact vi_mTask (by with_reducible assumption) | exact vi_mThing (by with_reducible assumption) | exact vi_mdecl (by with_reducible assumption) | exact vi_mready (by with_reducible assumption)) | exact (fun _ => ⟨(by first | with_reducible assumption | exact vi_isIn7 (by with_reducible assumption) | exact vi_isThing (by with_reducible assumption) | exact vi_decl (by with_reducible assumption) | exact vi_ready (by with_reducible assumption) | exact vi_run (by with_reducible assumption) (by with_reducible assumption) | exact vi_run (by with_reducible assumption) (vi_runner _) | exact vi_mTask (by with_reducible assumption) | exact vi_mThing (by with_reducible assumption) | exact vi_mdecl (by with_reducible assumption) | exact vi_mready (by with_reducible assumption)), (by first | with_reducible assumption | exact vi_isIn7 (by with_reducible assumption) | exact vi_isThing (by with_reducible assumption) | exact vi_decl (by with_reducible assumption) | exact vi_ready (by with_reducible assumption) | exact vi_run (by with_reducible assumption) (by with_reducible assumption) | exact vi_run (by with_reducible assumption) (vi_runner _) | exact vi_mTask (by with_reducible assumption) | exact vi_mThing (by with_reducible assumption) | exact vi_mdecl (by with_reducible assumption) | exact vi_mready (by with_reducible assumption))⟩) | exact (fun _ => ⟨vi_latest (by with_reducible assumption) (by with_reducible assumption), vi_run (by with_reducible assumption) (by with_reducible assumption)⟩) | exact (fun _ => (by with_reducible assumption : ¬ v4 = 0 → _) (by with_reducible assumption)) | exact (fun _ => (by first | with_reducible assumption | exact vi_isIn7 (by with_reducible assumption) | exact vi_isThing (by with_reducible assumption) | exact vi_decl (by with_reducible assumption) | exact vi_ready (by with_reducible assumption) | exact vi_run (by with_reducible assumption) (by with_reducible assumption) | exact vi_run (by with_reducible assumption) (vi_runner _) | exact vi_mTask (by with_reducible assumption) | exact vi_mThing (by with_reducible assumption) | exact vi_mdecl (by with_reducible assumption) | exact vi_mready (by with_reducible assumption))) | exact (by first | with_reducible assumption | exact vi_isIn7 (by with_reducible assumption) | exact vi_isThing (by with_reducible assumption) | exact vi_decl (by with_reducible assumption) | exact vi_ready (by with_reducible assumption) | exact vi_run (by with_reducible assumption) (by with_reducible assumption) | exact vi_run (by with_reducible assumption) (vi_runner _) | exact vi_mTask (by with_reducible assumption) | exact vi_mThing (by with_reducible assumption) | exact vi_mdecl (by with_reducible assumption) | exact vi_mready (by with_reducible assumption))) he
      · have he := he.trans (if_neg hc2)
        refine lv_iload_n hx hb d_M_runner_19 rfl (lv_at hl 1 rfl) ?_
        refine lv_iconst (v := (-1)) hx hb d_M_runner_20 (by decide) ?_
        refine lv_icmp_eq (tgt := 33) hx hb d_M_runner_21 (by decide) (fun hc3 => ?_) (fun hc3 => ?_)
        · have he := he.trans (if_pos hc3)
          refine lv_iload_n hx hb d_M_runner_33 rfl (lv_at hl 2 rfl) ?_
          refine lv_goto (tgt := 38) hx hb d_M_runner_34 (by decide) ?_
          refine lv_istore_n hx hb d_M_runner_38 rfl hl (by decide) rfl (fun ls hl => ?_)
          have hl : lv_has ls 3 [(1, .int (nI i)), (0, .ref (ad 0)), (2, .int (nI i))] := hl
          refine lv_iinc (k := 2) (v := (nI (i + 1))) hx hb d_M_runner_39 hl rfl (by first | rfl | (rw [nI_succ]; rfl)) (by decide) rfl (fun ls hl => ?_)
          have hl : lv_has ls 3 [(2, .int (nI (i + 1))), (1, .int (nI i)), (0, .ref (ad 0))] := hl
          refine lv_goto (tgt := 4) hx hb d_M_runner_42 (by decide) ?_
          exact ih (i + 1) (nI i) ls (by omega) (lv_sub hl [2, 1, 0] rfl) (by first | with_reducible assumption | exact Or.inl rfl | exact (fun h9 => absurd h9 (by decide)) | exact (fun h9 => absurd rfl h9) | exact vi_runner _ | exact Or.inr (vp_in_nI (by omega) (by decide)) | exact Or.inr (by first | with_reducible assumption | exact vi_isIn7 (by with_reducible assumption) | exact vi_isThing (by with_reducible assumption) | exact vi_decl (by with_reducible assumption) | exact vi_ready (by with_reducible assumption) | exact vi_run (by with_reducible assumption) (by with_reducible assumption) | exact vi_run (by with_reducible assumption) (vi_runner _) | exact vi_mTask (by with_reducible assumption) | exact vi_mThing (by with_reducible assumption) | exact vi_mdecl (by with_reducible assumption) | exact vi_mready (by with_reducible assumption)) | exact (fun _ => ⟨(by first | with_reducible assumption | exact vi_isIn7 (by with_reducible assumption) | exact vi_isThing (by with_reducible assumption) | exact vi_decl (by with_reducible assumption) | exact vi_ready (by with_reducible assumption) | exact vi_run (by with_reducible assumption) (by with_reducible assumption) | exact vi_run (by with_reducible assumption) (vi_runner _) | exact vi_mTask (by with_reducible assumption) | exact vi_mThing (by with_reducible assumption) | exact vi_mdecl (by with_reducible assumption) | exact vi_mready (by with_reducible assumption)), (by first | with_reducible assumption | exact vi_isIn7 (by with_reducible assumption) | exact vi_isThing (by with_reducible assumption) | exact vi_decl (by with_reducible assumption) | exact vi_ready (by with_reducible assumption) | exact vi_run (by with_reducible assumption) (by with_reducible assumption) | exact vi_run (by with_reducible assumption) (vi_runner _) | exact vi_mTask (by with_reducible assumption) | exact vi_mThing (by with_reducible assumption) | exact vi_mdecl (by with_reducible assumption) | exact vi_mready (by with_reducible assumption))⟩) | exact (fun _ => ⟨vi_latest (by with_reducible assumption) (by with_reducible assumption), vi_run (by with_reducible assumption) (by with_reducible assumption)⟩) | exact (fun _ => (by with_reducible assumption : ¬ v4 = 0 → _) (by with_reducible assumption)) | exact (fun _ => (by first | with_reducible assumption | exact vi_isIn7 (by with_reducible assumption) | exact vi_isThing (by with_reducible assumption) | exact vi_decl (by with_reducible assumption) | exact vi_ready (by with_reducible assumption) | exact vi_run (by with_reducible assumption) (by with_reducible assumption) | exact vi_run (by with_reducible assumption) (vi_runner _) | exact vi_mTask (by with_reducible assumption) | exact vi_mThing (by with_reducible assumption) | exact vi_mdecl (by with_reducible assumption) | exact vi_mready (by with_reducible assumption))) | exact (by first | with_reducible assumption | exact vi_isIn7 (by with_reducible assumption) | exact vi_isThing (by with_reducible assumption) | exact vi_decl (by with_reducible assumption) | exact vi_ready (by with_reducible assumption) | exact vi_run (by with_reducible assumption) (by with_reducible assumption) | exact vi_run (by with_reducible assumption) (vi_runner _) | exact vi_mTask (by with_reducible assumption) | exact vi_mThing (by with_reducible assumption) | exact vi_mdecl (by with_reducible assumption) | exact vi_mready (by with_reducible assumption))) he
        · have he := he.trans (if_neg hc3)
          refine lv_aload_n hx hb d_M_runner_24 rfl (lv_at hl 0 rfl) ?_
          refine lv_iload_n hx hb d_M_runner_25 rfl (lv_at hl 2 rfl) ?_
          refine lv_iload_n hx hb d_M_runner_26 rfl (lv_at hl 1 rfl) ?_
          refine rdV (As := [.int (nI i), .int v1]) (rest := []) (na := 2) (c_M_isFirst l D cI cT cH ad st (nI i) v1 (vp_in_nI (by omega) (by decide)) (by first | with_reducible assumption | exact vi_isIn7 (by with_reducible assumption) | exact vi_isThing (by with_reducible assumption) | exact vi_decl (by with_reducible assumption) | exact vi_ready (by with_reducible assumption) | exact vi_run (by with_reducible assumption) (by with_reducible assumption) | exact vi_run (by with_reducible assumption) (vi_runner _) | exact vi_mTask (by with_reducible assumption) | exact vi_mThing (by with_reducible assumption) | exact vi_mdecl (by with_reducible assumption) | exact vi_mready (by with_reducible assumption))) ⟨hx, hb, hml, hown, hts⟩ k_531 k_533 k_16 k_28 k_534 (by decide +kernel) (by decide) (by decide) hP hK hN (q0 := 0) (ci := 4) mw_0 rfl rfl hl.1 rfl (Nat.le_of_ble_eq_true rfl) d_M_runner_27 ?_
          refine lv_if_eq (tgt := 37) hx hb d_M_runner_30 (by decide) (fun hc4 => ?_) (fun hc4 => ?_)
          · have he := he.trans (if_pos hc4)
            refine lv_iload_n hx hb d_M_runner_37 rfl (lv_at hl 1 rfl) ?_
            refine lv_istore_n hx hb d_M_runner_38 rfl hl (by decide) rfl (fun ls hl => ?_)
            have hl : lv_has ls 3 [(1, .int v1), (0, .ref (ad 0)), (2, .int (nI i))] := hl
            refine lv_iinc (k := 2) (v := (nI (i + 1))) hx hb d_M_runner_39 hl rfl (by first | rfl | (rw [nI_succ]; rfl)) (by decide) rfl (fun ls hl => ?_)
            have hl : lv_has ls 3 [(2, .int (nI (i + 1))), (1, .int v1), (0, .ref (ad 0))] := hl
            refine lv_goto (tgt := 4) hx hb d_M_runner_42 (by decide) ?_
            exact ih (i + 1) v1 ls (by omega) (lv_sub hl [2, 1, 0] rfl) (by first | with_reducible assumption | exact Or.inl rfl | exact (fun h9 => absurd h9 (by decide)) | exact (fun h9 => absurd rfl h9) | exact vi_runner _ | exact Or.inr (vp_in_nI (by omega) (by decide)) | exact Or.inr (by first | with_reducible assumption | exact vi_isIn7 (by with_reducible assumption) | exact vi_isThing (by with_reducible assumption) | exact vi_decl (by with_reducible assumption) | exact vi_ready (by with_reducible assumption) | exact vi_run (by with_reducible assumption) (by with_reducible assumption) | exact vi_run (by with_reducible assumption) (vi_runner _) | exact vi_mTask (by with_reducible assumption) | exact vi_mThing (by with_reducible assumption) | exact vi_mdecl (by with_reducible assumption) | exact vi_mready (by with_reducible assumption)) | exact (fun _ => ⟨(by first | with_reducible assumption | exact vi_isIn7 (by with_reducible assumption) | exact vi_isThing (by with_reducible assumption) | exact vi_decl (by with_reducible assumption) | exact vi_ready (by with_reducible assumption) | exact vi_run (by with_reducible assumption) (by with_reducible assumption) | exact vi_run (by with_reducible assumption) (vi_runner _) | exact vi_mTask (by with_reducible assumption) | exact vi_mThing (by with_reducible assumption) | exact vi_mdecl (by with_reducible assumption) | exact vi_mready (by with_reducible assumption)), (by first | with_reducible assumption | exact vi_isIn7 (by with_reducible assumption) | exact vi_isThing (by with_reducible assumption) | exact vi_decl (by with_reducible assumption) | exact vi_ready (by with_reducible assumption) | exact vi_run (by with_reducible assumption) (by with_reducible assumption) | exact vi_run (by with_reducible assumption) (vi_runner _) | exact vi_mTask (by with_reducible assumption) | exact vi_mThing (by with_reducible assumption) | exact vi_mdecl (by with_reducible assumption) | exact vi_mready (by with_reducible assumption))⟩) | exact (fun _ => ⟨vi_latest (by with_reducible assumption) (by with_reducible assumption), vi_run (by with_reducible assumption) (by with_reducible assumption)⟩) | exact (fun _ => (by with_reducible assumption : ¬ v4 = 0 → _) (by with_reducible assumption)) | exact (fun _ => (by first | with_reducible assumption | exact vi_isIn7 (by with_reducible assumption) | exact vi_isThing (by with_reducible assumption) | exact vi_decl (by with_reducible assumption) | exact vi_ready (by with_reducible assumption) | exact vi_run (by with_reducible assumption) (by with_reducible assumption) | exact vi_run (by with_reducible assumption) (vi_runner _) | exact vi_mTask (by with_reducible assumption) | exact vi_mThing (by with_reducible assumption) | exact vi_mdecl (by with_reducible assumption) | exact vi_mready (by with_reducible assumption))) | exact (by first | with_reducible assumption | exact vi_isIn7 (by with_reducible assumption) | exact vi_isThing (by with_reducible assumption) | exact vi_decl (by with_reducible assumption) | exact vi_ready (by with_reducible assumption) | exact vi_run (by with_reducible assumption) (by with_reducible assumption) | exact vi_run (by with_reducible assumption) (vi_runner _) | exact vi_mTask (by with_reducible assumption) | exact vi_mThing (by with_reducible assumption) | exact vi_mdecl (by with_reducible assumption) | exact vi_mready (by with_reducible assumption))) he
          · have he := he.trans (if_neg hc4)
            refine lv_iload_n hx hb d_M_runner_33 rfl (lv_at hl 2 rfl) ?_
            refine lv_goto (tgt := 38) hx hb d_M_runner_34 (by decide) ?_
            refine lv_istore_n hx hb d_M_runner_38 rfl hl (by decide) rfl (fun ls hl => ?_)
            have hl : lv_has ls 3 [(1, .int (nI i)), (0, .ref (ad 0)), (2, .int (nI i))] := hl
            refine lv_iinc (k := 2) (v := (nI (i + 1))) hx hb d_M_runner_39 hl rfl (by first | rfl | (rw [nI_succ]; rfl)) (by decide) rfl (fun ls hl => ?_)
            have hl : lv_has ls 3 [(2, .int (nI (i + 1))), (1, .int (nI i)), (0, .ref (ad 0))] := hl
            refine lv_goto (tgt := 4) hx hb d_M_runner_42 (by decide) ?_
            exact ih (i + 1) (nI i) ls (by omega) (lv_sub hl [2, 1, 0] rfl) (by first | with_reducible assumption | exact Or.inl rfl | exact (fun h9 => absurd h9 (by decide)) | exact (fun h9 => absurd rfl h9) | exact vi_runner _ | exact Or.inr (vp_in_nI (by omega) (by decide)) | exact Or.inr (by first | with_reducible assumption | exact vi_isIn7 (by with_reducible assumption) | exact vi_isThing (by with_reducible assumption) | exact vi_decl (by with_reducible assumption) | exact vi_ready (by with_reducible assumption) | exact vi_run (by with_reducible assumption) (by with_reducible assumption) | exact vi_run (by with_reducible assumption) (vi_runner _) | exact vi_mTask (by with_reducible assumption) | exact vi_mThing (by with_reducible assumption) | exact vi_mdecl (by with_reducible assumption) | exact vi_mready (by with_reducible assumption)) | exact (fun _ => ⟨(by first | with_reducible assumption | exact vi_isIn7 (by with_reducible assumption) | exact vi_isThing (by with_reducible assumption) | exact vi_decl (by with_reducible assumption) | exact vi_ready (by with_reducible assumption) | exact vi_run (by with_reducible assumption) (by with_reducible assumption) | exact vi_run (by with_reducible assumption) (vi_runner _) | exact vi_mTask (by with_reducible assumption) | exact vi_mThing (by with_reducible assumption) | exact vi_mdecl (by with_reducible assumption) | exact vi_mready (by with_reducible assumption)), (by first | with_reducible assumption | exact vi_isIn7 (by with_reducible assumption) | exact vi_isThing (by with_reducible assumption) | exact vi_decl (by with_reducible assumption) | exact vi_ready (by with_reducible assumption) | exact vi_run (by with_reducible assumption) (by with_reducible assumption) | exact vi_run (by with_reducible assumption) (vi_runner _) | exact vi_mTask (by with_reducible assumption) | exact vi_mThing (by with_reducible assumption) | exact vi_mdecl (by with_reducible assumption) | exact vi_mready (by with_reducible assumption))⟩) | exact (fun _ => ⟨vi_latest (by with_reducible assumption) (by with_reducible assumption), vi_run (by with_reducible assumption) (by with_reducible assumption)⟩) | exact (fun _ => (by with_reducible assumption : ¬ v4 = 0 → _) (by with_reducible assumption)) | exact (fun _ => (by first | with_reducible assumption | exact vi_isIn7 (by with_reducible assumption) | exact vi_isThing (by with_reducible assumption) | exact vi_decl (by with_reducible assumption) | exact vi_ready (by with_reducible assumption) | exact vi_run (by with_reducible assumption) (by with_reducible assumption) | exact vi_run (by with_reducible assumption) (vi_runner _) | exact vi_mTask (by with_reducible assumption) | exact vi_mThing (by with_reducible assumption) | exact vi_mdecl (by with_reducible assumption) | exact vi_mready (by with_reducible assumption))) | exact (by first | with_reducible assumption | exact vi_isIn7 (by with_reducible assumption) | exact vi_isThing (by with_reducible assumption) | exact vi_decl (by with_reducible assumption) | exact vi_ready (by with_reducible assumption) | exact vi_run (by with_reducible assumption) (by with_reducible assumption) | exact vi_run (by with_reducible assumption) (vi_runner _) | exact vi_mTask (by with_reducible assumption) | exact vi_mThing (by with_reducible assumption) | exact vi_mdecl (by with_reducible assumption) | exact vi_mready (by with_reducible assumption))) he
  have he := f_M_runner.eq_1 st
  refine lv_iconst (v := (-1)) hx hb d_M_runner_0 (by decide) ?_
  refine lv_istore_n hx hb d_M_runner_1 rfl hl (by decide) rfl (fun ls hl => ?_)
  have hl : lv_has ls 3 [(1, .int (-1)), (0, .ref (ad 0))] := hl
  refine lv_iconst (v := 0) hx hb d_M_runner_2 (by decide) ?_
  refine lv_istore_n hx hb d_M_runner_3 rfl hl (by decide) rfl (fun ls hl => ?_)
  have hl : lv_has ls 3 [(2, .int 0), (1, .int (-1)), (0, .ref (ad 0))] := hl
  exact L4 8 0 (-1) ls (by first | decide | omega) (lv_sub hl [2, 1, 0] rfl) (by first | with_reducible assumption | exact Or.inl rfl | exact (fun h9 => absurd h9 (by decide)) | exact (fun h9 => absurd rfl h9) | exact vi_runner _ | exact Or.inr (vp_in_nI (by omega) (by decide)) | exact Or.inr (by first | with_reducible assumption | exact vi_isIn7 (by with_reducible assumption) | exact vi_isThing (by with_reducible assumption) | exact vi_decl (by with_reducible assumption) | exact vi_ready (by with_reducible assumption) | exact vi_run (by with_reducible assumption) (by with_reducible assumption) | exact vi_run (by with_reducible assumption) (vi_runner _) | exact vi_mTask (by with_reducible assumption) | exact vi_mThing (by with_reducible assumption) | exact vi_mdecl (by with_reducible assumption) | exact vi_mready (by with_reducible assumption)) | exact (fun _ => ⟨(by first | with_reducible assumption | exact vi_isIn7 (by with_reducible assumption) | exact vi_isThing (by with_reducible assumption) | exact vi_decl (by with_reducible assumption) | exact vi_ready (by with_reducible assumption) | exact vi_run (by with_reducible assumption) (by with_reducible assumption) | exact vi_run (by with_reducible assumption) (vi_runner _) | exact vi_mTask (by with_reducible assumption) | exact vi_mThing (by with_reducible assumption) | exact vi_mdecl (by with_reducible assumption) | exact vi_mready (by with_reducible assumption)), (by first | with_reducible assumption | exact vi_isIn7 (by with_reducible assumption) | exact vi_isThing (by with_reducible assumption) | exact vi_decl (by with_reducible assumption) | exact vi_ready (by with_reducible assumption) | exact vi_run (by with_reducible assumption) (by with_reducible assumption) | exact vi_run (by with_reducible assumption) (vi_runner _) | exact vi_mTask (by with_reducible assumption) | exact vi_mThing (by with_reducible assumption) | exact vi_mdecl (by with_reducible assumption) | exact vi_mready (by with_reducible assumption))⟩) | exact (fun _ => ⟨vi_latest (by with_reducible assumption) (by with_reducible assumption), vi_run (by with_reducible assumption) (by with_reducible assumption)⟩) | exact (fun _ => (by with_reducible assumption : ¬ v4 = 0 → _) (by with_reducible assumption)) | exact (fun _ => (by first | with_reducible assumption | exact vi_isIn7 (by with_reducible assumption) | exact vi_isThing (by with_reducible assumption) | exact vi_decl (by with_reducible assumption) | exact vi_ready (by with_reducible assumption) | exact vi_run (by with_reducible assumption) (by with_reducible assumption) | exact vi_run (by with_reducible assumption) (vi_runner _) | exact vi_mTask (by with_reducible assumption) | exact vi_mThing (by with_reducible assumption) | exact vi_mdecl (by with_reducible assumption) | exact vi_mready (by with_reducible assumption))) | exact (by first | with_reducible assumption | exact vi_isIn7 (by with_reducible assumption) | exact vi_isThing (by with_reducible assumption) | exact vi_decl (by with_reducible assumption) | exact vi_ready (by with_reducible assumption) | exact vi_run (by with_reducible assumption) (by with_reducible assumption) | exact vi_run (by with_reducible assumption) (vi_runner _) | exact vi_mTask (by with_reducible assumption) | exact vi_mThing (by with_reducible assumption) | exact vi_mdecl (by with_reducible assumption) | exact vi_mready (by with_reducible assumption))) he
set_option maxHeartbeats 4000000 in
set_option maxRecDepth 100000 in
theorem c_M_add (l : Launch) (D : va_G) (cI cT cH : ClassId) (ad : Nat → Nat) (st : St) (p1 : Int32) (p2 : Int32) (p3 : Int32) (hI : ∀ i j, i < 13 → j < 13 → ad i = ad j → i = j) (hy0 : vp_in (irem (st 0 16) 40) 40) : Met l y_M_add w_M_add { frames := 0, cells := 0, slots := 0, locals := 0 } (va_Pc [.ref (ad 0), .int p1, .int p2, .int p3] (gW D cI cT cH (mw cI ad st))) (qV D (mw cI ad (f_M_add st p1 p2 p3)) (inA ad 13)) 0 0 (inA ad 13) := by
  refine Met.ofW (cc := b_M_add) (maxL := 4) (ret := none) (by decide +kernel) rfl ?_
  intro p e s m args below meth c s₁ B hml hv
  obtain ⟨rfl, hP, hK, hN⟩ := hv
  have hx := B.exec
  have hb := B.bytes
  have hr := B.returns
  have hlocks := B.notSynchronized
  have hts0 := atoms_spec (ws := w_M_add) B.pre
  have hts : ∀ w ∈ TT, w.before [.ref (ad 0), .int p1, .int p2, .int p3].toArray s = true := fun w h => hts0 w (List.mem_cons_of_mem _ h)
  have hown : s.vm.findClass R_M = some m.cls := findClass_of_methodNamed B.named
  have hS : va_S (inA ad 13) s.heap s.heap [] := va_S.rf
  have hl := lv_entry ([.ref (ad 0), .int p1, .int p2, .int p3]) (n := 4) (Nat.le_of_ble_eq_true rfl)
  rw [lg_entry_eq]
  generalize (lg_sl ([.ref (ad 0), .int p1, .int p2, .int p3]) ++ List.replicate (4 - (lg_sl ([.ref (ad 0), .int p1, .int p2, .int p3])).length) Slot.unset).toArray = ls at hl ⊢
  have hl : lv_has ls 4 [(0, .ref (ad 0)), (1, .int p1), (2, .int p2), (3, .int p3)] := hl
  have he := f_M_add.eq_1 st p1 p2 p3
  refine lv_aload_n hx hb d_M_add_0 rfl (lv_at hl 0 rfl) ?_
  refine va_get (D := D) (ci := 4) (v := .ref (ad 12)) (C := R_M) (T := F_M) (N := 18) hx hb hts in_M hown hK hP 0 mw_0 rfl 17 (by decide) (hts _ k_451) (fun _ h9 => h9) rfl d_M_add_1 ?_
  refine lv_aload_n hx hb d_M_add_4 rfl (lv_at hl 0 rfl) ?_
  refine va_get (D := D) (ci := 4) (v := .int (st 0 16)) (C := R_M) (T := F_M) (N := 18) hx hb hts in_M hown hK hP 0 mw_0 rfl 16 (by decide) (hts _ k_450) (fun _ h9 => h9) rfl d_M_add_5 ?_
  refine lv_bipush (v := 40) hx hb d_M_add_8 (by decide) ?_
  refine lv_irem hx hb d_M_add_10 (by first | with_reducible assumption | exact vi_ne0 (by with_reducible assumption) | exact hy1 _ (by omega) (i32_pos (by with_reducible assumption)) | decide) ?_
  refine W.eq (g2 := F0 m 11 ls [.int (irem (st 0 16) 40), .ref (ad 12)]) rfl ?_
  refine lv_aload_n hx hb d_M_add_11 rfl (lv_at hl 0 rfl) ?_
  refine va_get (D := D) (ci := 4) (v := .int (st 0 2)) (C := R_M) (T := F_M) (N := 18) hx hb hts in_M hown hK hP 0 mw_0 rfl 2 (by decide) (hts _ k_436) (fun _ h9 => h9) rfl d_M_add_12 ?_
  refine lv_ldc hx hb hown (hts _ k_543) d_M_add_15 ?_
  refine lv_irem hx hb d_M_add_17 (by first | with_reducible assumption | exact vi_ne0 (by with_reducible assumption) | exact hy1 _ (by omega) (i32_pos (by with_reducible assumption)) | decide) ?_
  refine W.eq (g2 := F0 m 18 ls [.int (irem (st 0 2) 65536), .int (irem (st 0 16) 40), .ref (ad 12)]) rfl ?_
  refine lv_sipush (v := 4096) hx hb d_M_add_18 (by decide) ?_
  refine lv_imul hx hb d_M_add_21 ?_
  refine lv_sipush (v := 256) hx hb d_M_add_22 (by decide) ?_
  refine lv_iload_n hx hb d_M_add_25 rfl (lv_at hl 3 rfl) ?_
  refine lv_imul hx hb d_M_add_26 ?_
  refine lv_iadd hx hb d_M_add_27 ?_
  refine lv_bipush (v := 16) hx hb d_M_add_28 (by decide) ?_
  refine lv_iload_n hx hb d_M_add_30 rfl (lv_at hl 2 rfl) ?_
  refine lv_imul hx hb d_M_add_31 ?_
  refine lv_iadd hx hb d_M_add_32 ?_
  refine lv_iload_n hx hb d_M_add_33 rfl (lv_at hl 1 rfl) ?_
  refine lv_iadd hx hb d_M_add_34 ?_
  have hi1 : vp_in (irem (st 0 16) 40) 40 := (by first | with_reducible assumption | exact vi_isIn7 (by with_reducible assumption) | exact vi_isThing (by with_reducible assumption) | exact vi_decl (by with_reducible assumption) | exact vi_ready (by with_reducible assumption) | exact vi_run (by with_reducible assumption) (by with_reducible assumption) | exact vi_run (by with_reducible assumption) (vi_runner _) | exact vi_mTask (by with_reducible assumption) | exact vi_mThing (by with_reducible assumption) | exact vi_mdecl (by with_reducible assumption) | exact vi_mready (by with_reducible assumption))
  refine va_iast hx hb hK hP (mw_D hI) hS 12 0 mw_12 rfl hi1 d_M_add_35 (fun H locs hP _ hS => ?_)
  rw [mp_12] at hP
  generalize hw3 : wr st 12 (irem (st 0 16) 40).toNatClampNeg (((((irem (st 0 2) 65536) * 4096) + (256 * p3)) + (16 * p2)) + p1) = sw2 at hP he
  refine W.eq (g2 := F0 m 36 ls []) rfl ?_
  rw [f_M_add_S36] at he
  refine lv_aload_n hx hb d_M_add_36 rfl (lv_at hl 0 rfl) ?_
  refine lv_dup hx hb d_M_add_37 rfl ?_
  refine va_get (D := D) (ci := 4) (v := .int (sw2 0 16)) (C := R_M) (T := F_M) (N := 18) hx hb hts in_M hown hK hP 0 mw_0 rfl 16 (by decide) (hts _ k_450) (fun _ h9 => h9) rfl d_M_add_38 ?_
  refine lv_iconst (v := 1) hx hb d_M_add_41 (by decide) ?_
  refine lv_iadd hx hb d_M_add_42 ?_
  refine va_put (D := D) (ci := 4) (v := .int ((sw2 0 16) + 1)) (ty := .int) (C := R_M) (T := F_M) (N := 18) hx hb hts in_M ft_M ft_M_ok n_M hown hK hP (mw_D hI) hS 0 mw_0 rfl 16 (by decide) (hts _ k_450) (fun _ h9 => h9) rfl (by decide +kernel) rfl rfl (Nat.le_of_ble_eq_true rfl) d_M_add_43 (fun H locs hP _ hS => ?_)
  rw [mp_0 (k := 16) (by decide)] at hP
  generalize hw5 : wr sw2 0 16 ((sw2 0 16) + 1) = sw4 at hP he
  refine W.eq (g2 := F0 m 46 ls []) rfl ?_
  exact W.vret hx hb hr (fun t ht _ => ⟨⟨(), rfl, trivial, (by rw [he]; show va_P _ _ _ t.heap; rw [ht]; exact hP)⟩, hS.F ht⟩) hS.2.2 d_M_add_46
set_option maxHeartbeats 4000000 in
set_option maxRecDepth 100000 in
theorem c_M_tell (l : Launch) (D : va_G) (cI cT cH : ClassId) (ad : Nat → Nat) (st : St) (p1 : Int32) (p2 : Int32) (p3 : Int32) (p4 : Int32) (hI : ∀ i j, i < 13 → j < 13 → ad i = ad j → i = j) (hy0 : vp_in (irem (st 0 16) 40) 40 ∧ vp_in (irem (st 0 16 + 1) 40) 40) : Met l y_M_tell w_M_tell { frames := 2, cells := 0, slots := 0, locals := 44 } (va_Pc [.ref (ad 0), .int p1, .int p2, .int p3, .int p4] (gW D cI cT cH (mw cI ad st))) (qV D (mw cI ad (f_M_tell st p1 p2 p3 p4)) (inA ad 13)) 0 0 (inA ad 13) := by
  refine Met.ofW (cc := b_M_tell) (maxL := 6) (ret := none) (by decide +kernel) rfl ?_
  intro p e s m args below meth c s₁ B hml hv
  obtain ⟨rfl, hP, hK, hN⟩ := hv
  have hx := B.exec
  have hb := B.bytes
  have hr := B.returns
  have hlocks := B.notSynchronized
  have hts0 := atoms_spec (ws := w_M_tell) B.pre
  have hts : ∀ w ∈ TT, w.before [.ref (ad 0), .int p1, .int p2, .int p3, .int p4].toArray s = true := fun w h => hts0 w (List.mem_cons_of_mem _ h)
  have hown : s.vm.findClass R_M = some m.cls := findClass_of_methodNamed B.named
  have hS : va_S (inA ad 13) s.heap s.heap [] := va_S.rf
  have hl := lv_entry ([.ref (ad 0), .int p1, .int p2, .int p3, .int p4]) (n := 6) (Nat.le_of_ble_eq_true rfl)
  rw [lg_entry_eq]
  generalize (lg_sl ([.ref (ad 0), .int p1, .int p2, .int p3, .int p4]) ++ List.replicate (6 - (lg_sl ([.ref (ad 0), .int p1, .int p2, .int p3, .int p4])).length) Slot.unset).toArray = ls at hl ⊢
  have hl : lv_has ls 6 [(0, .ref (ad 0)), (1, .int p1), (2, .int p2), (3, .int p3), (4, .int p4)] := hl
  have J35 : ∀ (x1 : Int32) (x2 : Int32) (sl : St) (H : Heap) (locs : List Loc) (ls : Array Slot), lv_has ls 6 [] → va_P D cls9 (mw cI ad sl) H → va_S (inA ad 13) s.heap H locs → (vp_in (irem (sl 0 16) 40) 40) → f_M_tell st p1 p2 p3 p4 = f_M_tell_B35 sl x1 x2 → W p l e (headSpec w_M_tell { frames := 2, cells := 0, slots := 0, locals := 44 }).room s m [.ref (ad 0), .int p1, .int p2, .int p3, .int p4].toArray below meth c H locs 0 0 (MQ below (qV D (mw cI ad (f_M_tell st p1 p2 p3 p4)) (inA ad 13)) [.ref (ad 0), .int p1, .int p2, .int p3, .int p4].toArray s 0 0 (inA ad 13)) (F0 m 35 ls [.int x2, .int x1, .ref (ad 0)]) := by
    intro x1 x2 sl H locs ls hl hP hS g0 he
    rw [f_M_tell_B35] at he
    refine lv_bipush (v := 15) hx hb d_M_tell_35 (by decide) ?_
    refine wcV (As := [.int x1, .int x2, .int 15]) (rest := []) (na := 3) (c_M_add l D cI cT cH ad sl x1 x2 15 hI (by first | exact hy0.1 | exact g0 | assumption)) ⟨hx, hb, hml, hown, hts⟩ k_539 k_541 k_18 k_28 k_542 (by decide +kernel) (by decide) (by decide) hP hK hN (q0 := 0) (ci := 4) mw_0 rfl hS rfl hl.1 rfl (Nat.le_of_ble_eq_true rfl) d_M_tell_37 (fun H locs hP hS => ?_)
    generalize hw2 : f_M_add sl x1 x2 15 = sw1 at hP he
    refine W.eq (g2 := F0 m 40 ls []) rfl ?_
    exact W.vret hx hb hr (fun t ht _ => ⟨⟨(), rfl, trivial, (by rw [he]; show va_P _ _ _ t.heap; rw [ht]; exact hP)⟩, hS.F ht⟩) hS.2.2 d_M_tell_40
  have he := f_M_tell.eq_1 st p1 p2 p3 p4
  refine lv_aload_n hx hb d_M_tell_0 rfl (lv_at hl 0 rfl) ?_
  refine lv_iload_n hx hb d_M_tell_1 rfl (lv_at hl 1 rfl) ?_
  refine lv_iload_n hx hb d_M_tell_2 rfl (lv_at hl 2 rfl) ?_
  refine lv_iload_n hx hb d_M_tell_3 rfl (lv_at hl 3 rfl) ?_
  refine wcV (As := [.int p1, .int p2, .int p3]) (rest := []) (na := 3) (c_M_add l D cI cT cH ad st p1 p2 p3 hI (by first | exact hy0.1 | exact g0 | assumption)) ⟨hx, hb, hml, hown, hts⟩ k_539 k_541 k_18 k_28 k_542 (by decide +kernel) (by decide) (by decide) hP hK hN (q0 := 0) (ci := 4) mw_0 rfl hS rfl hl.1 rfl (Nat.le_of_ble_eq_true rfl) d_M_tell_4 (fun H locs hP hS => ?_)
  generalize hw4 : f_M_add st p1 p2 p3 = sw3 at hP he
  refine W.eq (g2 := F0 m 7 ls []) rfl ?_
  rw [f_M_tell_S7] at he
  have hm2 : vp_in (irem (sw3 0 16) 40) 40 := by rw [show sw3 0 16 = st 0 16 + 1 from by rw [← hw4]; rfl]; exact hy0.2
  refine lv_aload_n hx hb d_M_tell_7 rfl (lv_at hl 0 rfl) ?_
  refine rdV (As := []) (rest := []) (na := 0) (c_M_runner l D cI cT cH ad sw3  ) ⟨hx, hb, hml, hown, hts⟩ k_527 k_529 k_15 k_28 k_530 (by decide +kernel) (by decide) (by decide) hP hK hN (q0 := 0) (ci := 4) mw_0 rfl rfl hl.1 rfl (Nat.le_of_ble_eq_true rfl) d_M_tell_8 ?_
  refine lv_istore hx hb d_M_tell_11 hl (by decide) rfl (fun ls hl => ?_)
  have hl : lv_has ls 6 [(5, .int (f_M_runner sw3)), (0, .ref (ad 0)), (1, .int p1), (2, .int p2), (3, .int p3), (4, .int p4)] := hl
  refine lv_iload hx hb d_M_tell_13 (lv_at hl 0 rfl) ?_
  refine lv_iload hx hb d_M_tell_15 (lv_at hl 5 rfl) ?_
  refine lv_icmp_eq (tgt := 40) hx hb d_M_tell_17 (by decide) (fun hc5 => ?_) (fun hc5 => ?_)
  · have he := he.trans (if_pos hc5)
    exact W.vret hx hb hr (fun t ht _ => ⟨⟨(), rfl, trivial, (by rw [he]; show va_P _ _ _ t.heap; rw [ht]; exact hP)⟩, hS.F ht⟩) hS.2.2 d_M_tell_40
  · have he := he.trans (if_neg hc5)
    refine lv_aload_n hx hb d_M_tell_20 rfl (lv_at hl 1 rfl) ?_
    refine lv_iconst (v := 5) hx hb d_M_tell_21 (by decide) ?_
    refine lv_iload hx hb d_M_tell_22 (lv_at hl 0 rfl) ?_
    refine lv_iconst (v := (-1)) hx hb d_M_tell_24 (by decide) ?_
    refine lv_icmp_ne (tgt := 33) hx hb d_M_tell_25 (by decide) (fun hc6 => ?_) (fun hc6 => ?_)
    · have he := he.trans (if_neg hc6)
      refine lv_iload hx hb d_M_tell_33 (lv_at hl 0 rfl) ?_
      exact J35 5 (f_M_runner sw3) sw3 H locs ls (lv_sub hl [] rfl) hP hS (by first | with_reducible assumption | exact Or.inl rfl | exact (fun h9 => absurd h9 (by decide)) | exact (fun h9 => absurd rfl h9) | exact vi_runner _ | exact Or.inr (vp_in_nI (by omega) (by decide)) | exact Or.inr (by first | with_reducible assumption | exact vi_isIn7 (by with_reducible assumption) | exact vi_isThing (by with_reducible assumption) | exact vi_decl (by with_reducible assumption) | exact vi_ready (by with_reducible assumption) | exact vi_run (by with_reducible assumption) (by with_reducible assumption) | exact vi_run (by with_reducible assumption) (vi_runner _) | exact vi_mTask (by with_reducible assumption) | exact vi_mThing (by with_reducible assumption) | exact vi_mdecl (by with_reducible assumption) | exact vi_mready (by with_reducible assumption)) | exact (fun _ => ⟨(by first | with_reducible assumption | exact vi_isIn7 (by with_reducible assumption) | exact vi_isThing (by with_reducible assumption) | exact vi_decl (by with_reducible assumption) | exact vi_ready (by with_reducible assumption) | exact vi_run (by with_reducible assumption) (by with_reducible assumption) | exact vi_run (by with_reducible assumption) (vi_runner _) | exact vi_mTask (by with_reducible assumption) | exact vi_mThing (by with_reducible assumption) | exact vi_mdecl (by with_reducible assumption) | exact vi_mready (by with_reducible assumption)), (by first | with_reducible assumption | exact vi_isIn7 (by with_reducible assumption) | exact vi_isThing (by with_reducible assumption) | exact vi_decl (by with_reducible assumption) | exact vi_ready (by with_reducible assumption) | exact vi_run (by with_reducible assumption) (by with_reducible assumption) | exact vi_run (by with_reducible assumption) (vi_runner _) | exact vi_mTask (by with_reducible assumption) | exact vi_mThing (by with_reducible assumption) | exact vi_mdecl (by with_reducible assumption) | exact vi_mready (by with_reducible assumption))⟩) | exact (fun _ => ⟨vi_latest (by with_reducible assumption) (by with_reducible assumption), vi_run (by with_reducible assumption) (by with_reducible assumption)⟩) | exact (fun _ => (by with_reducible assumption : ¬ v4 = 0 → _) (by with_reducible assumption)) | exact (fun _ => (by first | with_reducible assumption | exact vi_isIn7 (by with_reducible assumption) | exact vi_isThing (by with_reducible assumption) | exact vi_decl (by with_reducible assumption) | exact vi_ready (by with_reducible assumption) | exact vi_run (by with_reducible assumption) (by with_reducible assumption) | exact vi_run (by with_reducible assumption) (vi_runner _) | exact vi_mTask (by with_reducible assumption) | exact vi_mThing (by with_reducible assumption) | exact vi_mdecl (by with_reducible assumption) | exact vi_mready (by with_reducible assumption))) | exact (by first | with_reducible assumption | exact vi_isIn7 (by with_reducible assumption) | exact vi_isThing (by with_reducible assumption) | exact vi_decl (by with_reducible assumption) | exact vi_ready (by with_reducible assumption) | exact vi_run (by with_reducible assumption) (by with_reducible assumption) | exact vi_run (by with_reducible assumption) (vi_runner _) | exact vi_mTask (by with_reducible assumption) | exact vi_mThing (by with_reducible assumption) | exact vi_mdecl (by with_reducible assumption) | exact vi_mready (by with_reducible assumption))) he
    · have he := he.trans (if_pos hc6)
      refine lv_bipush (v := 8) hx hb d_M_tell_28 (by decide) ?_
      refine lv_goto (tgt := 35) hx hb d_M_tell_30 (by decide) ?_
      exact J35 5 8 sw3 H locs ls (lv_sub hl [] rfl) hP hS (by first | with_reducible assumption | exact Or.inl rfl | exact (fun h9 => absurd h9 (by decide)) | exact (fun h9 => absurd rfl h9) | exact vi_runner _ | exact Or.inr (vp_in_nI (by omega) (by decide)) | exact Or.inr (by first | with_reducible assumption | exact vi_isIn7 (by with_reducible assumption) | exact vi_isThing (by with_reducible assumption) | exact vi_decl (by with_reducible assumption) | exact vi_ready (by with_reducible assumption) | exact vi_run (by with_reducible assumption) (by with_reducible assumption) | exact vi_run (by with_reducible assumption) (vi_runner _) | exact vi_mTask (by with_reducible assumption) | exact vi_mThing (by with_reducible assumption) | exact vi_mdecl (by with_reducible assumption) | exact vi_mready (by with_reducible assumption)) | exact (fun _ => ⟨(by first | with_reducible assumption | exact vi_isIn7 (by with_reducible assumption) | exact vi_isThing (by with_reducible assumption) | exact vi_decl (by with_reducible assumption) | exact vi_ready (by with_reducible assumption) | exact vi_run (by with_reducible assumption) (by with_reducible assumption) | exact vi_run (by with_reducible assumption) (vi_runner _) | exact vi_mTask (by with_reducible assumption) | exact vi_mThing (by with_reducible assumption) | exact vi_mdecl (by with_reducible assumption) | exact vi_mready (by with_reducible assumption)), (by first | with_reducible assumption | exact vi_isIn7 (by with_reducible assumption) | exact vi_isThing (by with_reducible assumption) | exact vi_decl (by with_reducible assumption) | exact vi_ready (by with_reducible assumption) | exact vi_run (by with_reducible assumption) (by with_reducible assumption) | exact vi_run (by with_reducible assumption) (vi_runner _) | exact vi_mTask (by with_reducible assumption) | exact vi_mThing (by with_reducible assumption) | exact vi_mdecl (by with_reducible assumption) | exact vi_mready (by with_reducible assumption))⟩) | exact (fun _ => ⟨vi_latest (by with_reducible assumption) (by with_reducible assumption), vi_run (by with_reducible assumption) (by with_reducible assumption)⟩) | exact (fun _ => (by with_reducible assumption : ¬ v4 = 0 → _) (by with_reducible assumption)) | exact (fun _ => (by first | with_reducible assumption | exact vi_isIn7 (by with_reducible assumption) | exact vi_isThing (by with_reducible assumption) | exact vi_decl (by with_reducible assumption) | exact vi_ready (by with_reducible assumption) | exact vi_run (by with_reducible assumption) (by with_reducible assumption) | exact vi_run (by with_reducible assumption) (vi_runner _) | exact vi_mTask (by with_reducible assumption) | exact vi_mThing (by with_reducible assumption) | exact vi_mdecl (by with_reducible assumption) | exact vi_mready (by with_reducible assumption))) | exact (by first | with_reducible assumption | exact vi_isIn7 (by with_reducible assumption) | exact vi_isThing (by with_reducible assumption) | exact vi_decl (by with_reducible assumption) | exact vi_ready (by with_reducible assumption) | exact vi_run (by with_reducible assumption) (by with_reducible assumption) | exact vi_run (by with_reducible assumption) (vi_runner _) | exact vi_mTask (by with_reducible assumption) | exact vi_mThing (by with_reducible assumption) | exact vi_mdecl (by with_reducible assumption) | exact vi_mready (by with_reducible assumption))) he
set_option maxHeartbeats 4000000 in
set_option maxRecDepth 100000 in
theorem c_M_top (l : Launch) (D : va_G) (cI cT cH : ClassId) (ad : Nat → Nat) (st : St) (p1 : Int32) (hy0 : vp_in p1 6) : Met l y_M_top w_M_top { frames := 0, cells := 0, slots := 0, locals := 0 } (va_Pc [.ref (ad 0), .int p1] (gW D cI cT cH (mw cI ad st))) (QcRead (f_M_top st p1)) 0 0 (fun _ => False) := by
  refine Met.ofW (cc := b_M_top) (maxL := 4) (ret := (some .int)) (by decide +kernel) rfl ?_
  intro p e s m args below meth c s₁ B hml hv
  obtain ⟨rfl, hP, hK, hN⟩ := hv
  have hx := B.exec
  have hb := B.bytes
  have hr := B.returns
  have hlocks := B.notSynchronized
  have hts0 := atoms_spec (ws := w_M_top) B.pre
  have hts : ∀ w ∈ TT, w.before [.ref (ad 0), .int p1].toArray s = true := fun w h => hts0 w (List.mem_cons_of_mem _ h)
  have hown : s.vm.findClass R_M = some m.cls := findClass_of_methodNamed B.named
  have hl := lv_entry ([.ref (ad 0), .int p1]) (n := 4) (Nat.le_of_ble_eq_true rfl)
  rw [lg_entry_eq]
  generalize (lg_sl ([.ref (ad 0), .int p1]) ++ List.replicate (4 - (lg_sl ([.ref (ad 0), .int p1])).length) Slot.unset).toArray = ls at hl ⊢
  have hl : lv_has ls 4 [(0, .ref (ad 0)), (1, .int p1)] := hl
  have L4 : ∀ (n i : Nat) (v2 : Int32) (ls : Array Slot), i + n = 8 → lv_has ls 4 [(0, .ref (ad 0)), (1, .int p1), (2, .int v2), (3, .int (nI i))] → f_M_top st p1 = f_M_top_L4 n i st p1 v2 → W p l e (headSpec w_M_top { frames := 0, cells := 0, slots := 0, locals := 0 }).room s m [.ref (ad 0), .int p1].toArray below meth c s.heap [] 0 0 (MQ below (QcRead (f_M_top st p1)) [.ref (ad 0), .int p1].toArray s 0 0 (fun _ => False)) (F0 m 4 ls []) := by
    intro n
    induction n with
    | zero =>
      intro i v2 ls hcnt hl he
      have hz : i = 8 := by omega
      subst hz
      rw [f_M_top_L4] at he
      refine lv_iload_n hx hb d_M_top_4 rfl (lv_at hl 3 rfl) ?_
      refine lv_bipush (v := 8) hx hb d_M_top_5 (by decide) ?_
      refine lv_icmp_ge (tgt := 51) hx hb d_M_top_7 (by decide) (fun _ => ?_) (fun h9 => absurd (by decide) h9)
      refine lv_iload_n hx hb d_M_top_51 rfl (lv_at hl 2 rfl) ?_
      exact W.iret (v := v2) hx hb hr (fun t ht _ => ⟨by rw [he], ht⟩) (fun _ h => nomatch h) d_M_top_52
    | succ n ih =>
      intro i v2 ls hcnt hl he
      have hi8 : i < 8 := by omega
      rw [f_M_top_L4] at he
      refine lv_iload_n hx hb d_M_top_4 rfl (lv_at hl 3 rfl) ?_
      refine lv_bipush (v := 8) hx hb d_M_top_5 (by decide) ?_
      refine lv_icmp_ge (tgt := 51) hx hb d_M_top_7 (by decide) (fun h9 => absurd h9 (nlt_8 hi8)) (fun _ => ?_)
      refine lv_aload_n hx hb d_M_top_10 rfl (lv_at hl 0 rfl) ?_
      refine va_get (D := D) (ci := 4) (v := .ref (ad 8)) (C := R_M) (T := F_M) (N := 18) hx hb hts in_M hown hK hP 0 mw_0 rfl 11 (by decide) (hts _ k_445) (fun _ h9 => h9) rfl d_M_top_11 ?_
      refine lv_bipush (v := 6) hx hb d_M_top_14 (by decide) ?_
      refine lv_iload_n hx hb d_M_top_16 rfl (lv_at hl 3 rfl) ?_
      refine lv_imul hx hb d_M_top_17 ?_
      refine lv_iload_n hx hb d_M_top_18 rfl (lv_at hl 1 rfl) ?_
      refine lv_iadd hx hb d_M_top_19 ?_
      have hi1 : vp_in ((6 * (nI i)) + p1) 48 := (vi_six1 (by omega) (by first | with_reducible assumption | exact vi_isIn7 (by with_reducible assumption) | exact vi_isThing (by with_reducible assumption) | exact vi_decl (by with_reducible assumption) | exact vi_ready (by with_reducible assumption) | exact vi_run (by with_reducible assumption) (by with_reducible assumption) | exact vi_run (by with_reducible assumption) (vi_runner _) | exact vi_mTask (by with_reducible assumption) | exact vi_mThing (by with_reducible assumption) | exact vi_mdecl (by with_reducible assumption) | exact vi_mready (by with_reducible assumption)))
      refine va_iald hx hb hK hP 8 0 mw_8 rfl hi1 d_M_top_20 ?_
      refine W.eq (g2 := F0 m 21 ls [.int (st 8 ((6 * (nI i)) + p1).toNatClampNeg)]) rfl ?_
      refine lv_if_le (tgt := 43) hx hb d_M_top_21 (by decide) (fun hc2 => ?_) (fun hc2 => ?_)
      · have he := he.trans (if_pos hc2)
        refine lv_iload_n hx hb d_M_top_43 rfl (lv_at hl 2 rfl) ?_
        refine lv_istore_n hx hb d_M_top_44 rfl hl (by decide) rfl (fun ls hl => ?_)
        have hl : lv_has ls 4 [(2, .int v2), (0, .ref (ad 0)), (1, .int p1), (3, .int (nI i))] := hl
        refine lv_iinc (k := 3) (v := (nI (i + 1))) hx hb d_M_top_45 hl rfl (by first | rfl | (rw [nI_succ]; rfl)) (by decide) rfl (fun ls hl => ?_)
        have hl : lv_has ls 4 [(3, .int (nI (i + 1))), (2, .int v2), (0, .ref (ad 0)), (1, .int p1)] := hl
        refine lv_goto (tgt := 4) hx hb d_M_top_48 (by decide) ?_
        exact ih (i + 1) v2 ls (by omega) (lv_sub hl [2, 3, 1, 0] rfl) he
      · have he := he.trans (if_neg hc2)
        refine lv_aload_n hx hb d_M_top_24 rfl (lv_at hl 0 rfl) ?_
        refine va_get (D := D) (ci := 4) (v := .ref (ad 1)) (C := R_M) (T := F_M) (N := 18) hx hb hts in_M hown hK hP 0 mw_0 rfl 4 (by decide) (hts _ k_438) (fun _ h9 => h9) rfl d_M_top_25 ?_
        refine lv_iload_n hx hb d_M_top_28 rfl (lv_at hl 3 rfl) ?_
        have hi3 : vp_in (nI i) 8 := (vp_in_nI (by omega) (by decide))
        refine va_iald hx hb hK hP 1 0 mw_1 rfl hi3 d_M_top_29 ?_
        rw [show (nI i).toNatClampNeg = i from nI_clamp (by omega)]
        refine W.eq (g2 := F0 m 30 ls [.int (st 1 i)]) rfl ?_
        refine lv_iload_n hx hb d_M_top_30 rfl (lv_at hl 2 rfl) ?_
        refine lv_icmp_le (tgt := 43) hx hb d_M_top_31 (by decide) (fun hc4 => ?_) (fun hc4 => ?_)
        · have he := he.trans (if_pos hc4)
          refine lv_iload_n hx hb d_M_top_43 rfl (lv_at hl 2 rfl) ?_
          refine lv_istore_n hx hb d_M_top_44 rfl hl (by decide) rfl (fun ls hl => ?_)
          have hl : lv_has ls 4 [(2, .int v2), (0, .ref (ad 0)), (1, .int p1), (3, .int (nI i))] := hl
          refine lv_iinc (k := 3) (v := (nI (i + 1))) hx hb d_M_top_45 hl rfl (by first | rfl | (rw [nI_succ]; rfl)) (by decide) rfl (fun ls hl => ?_)
          have hl : lv_has ls 4 [(3, .int (nI (i + 1))), (2, .int v2), (0, .ref (ad 0)), (1, .int p1)] := hl
          refine lv_goto (tgt := 4) hx hb d_M_top_48 (by decide) ?_
          exact ih (i + 1) v2 ls (by omega) (lv_sub hl [2, 3, 1, 0] rfl) he
        · have he := he.trans (if_neg hc4)
          refine lv_aload_n hx hb d_M_top_34 rfl (lv_at hl 0 rfl) ?_
          refine va_get (D := D) (ci := 4) (v := .ref (ad 1)) (C := R_M) (T := F_M) (N := 18) hx hb hts in_M hown hK hP 0 mw_0 rfl 4 (by decide) (hts _ k_438) (fun _ h9 => h9) rfl d_M_top_35 ?_
          refine lv_iload_n hx hb d_M_top_38 rfl (lv_at hl 3 rfl) ?_
          have hi5 : vp_in (nI i) 8 := (vp_in_nI (by omega) (by decide))
          refine va_iald hx hb hK hP 1 0 mw_1 rfl hi5 d_M_top_39 ?_
          rw [show (nI i).toNatClampNeg = i from nI_clamp (by omega)]
          refine W.eq (g2 := F0 m 40 ls [.int (st 1 i)]) rfl ?_
          refine lv_goto (tgt := 44) hx hb d_M_top_40 (by decide) ?_
          refine lv_istore_n hx hb d_M_top_44 rfl hl (by decide) rfl (fun ls hl => ?_)
          have hl : lv_has ls 4 [(2, .int (st 1 i)), (0, .ref (ad 0)), (1, .int p1), (3, .int (nI i))] := hl
          refine lv_iinc (k := 3) (v := (nI (i + 1))) hx hb d_M_top_45 hl rfl (by first | rfl | (rw [nI_succ]; rfl)) (by decide) rfl (fun ls hl => ?_)
          have hl : lv_has ls 4 [(3, .int (nI (i + 1))), (2, .int (st 1 i)), (0, .ref (ad 0)), (1, .int p1)] := hl
          refine lv_goto (tgt := 4) hx hb d_M_top_48 (by decide) ?_
          exact ih (i + 1) (st 1 i) ls (by omega) (lv_sub hl [2, 3, 1, 0] rfl) he
  have he := f_M_top.eq_1 st p1
  refine lv_iconst (v := 0) hx hb d_M_top_0 (by decide) ?_
  refine lv_istore_n hx hb d_M_top_1 rfl hl (by decide) rfl (fun ls hl => ?_)
  have hl : lv_has ls 4 [(2, .int 0), (0, .ref (ad 0)), (1, .int p1)] := hl
  refine lv_iconst (v := 0) hx hb d_M_top_2 (by decide) ?_
  refine lv_istore_n hx hb d_M_top_3 rfl hl (by decide) rfl (fun ls hl => ?_)
  have hl : lv_has ls 4 [(3, .int 0), (2, .int 0), (0, .ref (ad 0)), (1, .int p1)] := hl
  exact L4 8 0 0 ls (by first | decide | omega) (lv_sub hl [2, 3, 1, 0] rfl) he
set_option maxHeartbeats 4000000 in
set_option maxRecDepth 100000 in
theorem c_M_latest (l : Launch) (D : va_G) (cI cT cH : ClassId) (ad : Nat → Nat) (st : St) (p1 : Int32) : Met l y_M_latest w_M_latest { frames := 0, cells := 0, slots := 0, locals := 0 } (va_Pc [.ref (ad 0), .int p1] (gW D cI cT cH (mw cI ad st))) (QcRead (f_M_latest st p1)) 0 0 (fun _ => False) := by
  refine Met.ofW (cc := b_M_latest) (maxL := 4) (ret := (some .int)) (by decide +kernel) rfl ?_
  intro p e s m args below meth c s₁ B hml hv
  obtain ⟨rfl, hP, hK, hN⟩ := hv
  have hx := B.exec
  have hb := B.bytes
  have hr := B.returns
  have hlocks := B.notSynchronized
  have hts0 := atoms_spec (ws := w_M_latest) B.pre
  have hts : ∀ w ∈ TT, w.before [.ref (ad 0), .int p1].toArray s = true := fun w h => hts0 w (List.mem_cons_of_mem _ h)
  have hown : s.vm.findClass R_M = some m.cls := findClass_of_methodNamed B.named
  have hl := lv_entry ([.ref (ad 0), .int p1]) (n := 4) (Nat.le_of_ble_eq_true rfl)
  rw [lg_entry_eq]
  generalize (lg_sl ([.ref (ad 0), .int p1]) ++ List.replicate (4 - (lg_sl ([.ref (ad 0), .int p1])).length) Slot.unset).toArray = ls at hl ⊢
  have hl : lv_has ls 4 [(0, .ref (ad 0)), (1, .int p1)] := hl
  have L4 : ∀ (n i : Nat) (v2 : Int32) (ls : Array Slot), i + n = 6 → lv_has ls 4 [(0, .ref (ad 0)), (1, .int p1), (2, .int v2), (3, .int (nI i))] → (v2 = (-1) ∨ vp_in v2 6) → f_M_latest st p1 = f_M_latest_L4 n i st p1 v2 → W p l e (headSpec w_M_latest { frames := 0, cells := 0, slots := 0, locals := 0 }).room s m [.ref (ad 0), .int p1].toArray below meth c s.heap [] 0 0 (MQ below (QcRead (f_M_latest st p1)) [.ref (ad 0), .int p1].toArray s 0 0 (fun _ => False)) (F0 m 4 ls []) := by
    intro n
    induction n with
    | zero =>
      intro i v2 ls hcnt hl g0 he
      have hz : i = 6 := by omega
      subst hz
      rw [f_M_latest_L4] at he
      refine lv_iload_n hx hb d_M_latest_4 rfl (lv_at hl 3 rfl) ?_
      refine lv_bipush (v := 6) hx hb d_M_latest_5 (by decide) ?_
      refine lv_icmp_ge (tgt := 52) hx hb d_M_latest_7 (by decide) (fun _ => ?_) (fun h9 => absurd (by decide) h9)
      refine lv_iload_n hx hb d_M_latest_52 rfl (lv_at hl 2 rfl) ?_
      exact W.iret (v := v2) hx hb hr (fun t ht _ => ⟨by rw [he], ht⟩) (fun _ h => nomatch h) d_M_latest_53
    | succ n ih =>
      intro i v2 ls hcnt hl g0 he
      have hi8 : i < 6 := by omega
      rw [f_M_latest_L4] at he
      refine lv_iload_n hx hb d_M_latest_4 rfl (lv_at hl 3 rfl) ?_
      refine lv_bipush (v := 6) hx hb d_M_latest_5 (by decide) ?_
      refine lv_icmp_ge (tgt := 52) hx hb d_M_latest_7 (by decide) (fun h9 => absurd h9 (nlt_6 hi8)) (fun _ => ?_)
      refine lv_aload_n hx hb d_M_latest_10 rfl (lv_at hl 0 rfl) ?_
      refine va_get (D := D) (ci := 4) (v := .ref (ad 9)) (C := R_M) (T := F_M) (N := 18) hx hb hts in_M hown hK hP 0 mw_0 rfl 12 (by decide) (hts _ k_446) (fun _ h9 => h9) rfl d_M_latest_11 ?_
      refine lv_iload_n hx hb d_M_latest_14 rfl (lv_at hl 3 rfl) ?_
      have hi1 : vp_in (nI i) 6 := (vp_in_nI (by omega) (by decide))
      refine va_iald hx hb hK hP 9 0 mw_9 rfl hi1 d_M_latest_15 ?_
      rw [show (nI i).toNatClampNeg = i from nI_clamp (by omega)]
      refine W.eq (g2 := F0 m 16 ls [.int (st 9 i)]) rfl ?_
      refine lv_iload_n hx hb d_M_latest_16 rfl (lv_at hl 1 rfl) ?_
      refine lv_icmp_ne (tgt := 44) hx hb d_M_latest_17 (by decide) (fun hc2 => ?_) (fun hc2 => ?_)
      · have he := he.trans (if_neg hc2)
        refine lv_iload_n hx hb d_M_latest_44 rfl (lv_at hl 2 rfl) ?_
        refine lv_istore_n hx hb d_M_latest_45 rfl hl (by decide) rfl (fun ls hl => ?_)
        have hl : lv_has ls 4 [(2, .int v2), (0, .ref (ad 0)), (1, .int p1), (3, .int (nI i))] := hl
        refine lv_iinc (k := 3) (v := (nI (i + 1))) hx hb d_M_latest_46 hl rfl (by first | rfl | (rw [nI_succ]; rfl)) (by decide) rfl (fun ls hl => ?_)
        have hl : lv_has ls 4 [(3, .int (nI (i + 1))), (2, .int v2), (0, .ref (ad 0)), (1, .int p1)] := hl
        refine lv_goto (tgt := 4) hx hb d_M_latest_49 (by decide) ?_
        exact ih (i + 1) v2 ls (by omega) (lv_sub hl [2, 3, 1, 0] rfl) (by first | with_reducible assumption | exact Or.inl rfl | exact (fun h9 => absurd h9 (by decide)) | exact (fun h9 => absurd rfl h9) | exact vi_runner _ | exact Or.inr (vp_in_nI (by omega) (by decide)) | exact Or.inr (by first | with_reducible assumption | exact vi_isIn7 (by with_reducible assumption) | exact vi_isThing (by with_reducible assumption) | exact vi_decl (by with_reducible assumption) | exact vi_ready (by with_reducible assumption) | exact vi_run (by with_reducible assumption) (by with_reducible assumption) | exact vi_run (by with_reducible assumption) (vi_runner _) | exact vi_mTask (by with_reducible assumption) | exact vi_mThing (by with_reducible assumption) | exact vi_mdecl (by with_reducible assumption) | exact vi_mready (by with_reducible assumption)) | exact (fun _ => ⟨(by first | with_reducible assumption | exact vi_isIn7 (by with_reducible assumption) | exact vi_isThing (by with_reducible assumption) | exact vi_decl (by with_reducible assumption) | exact vi_ready (by with_reducible assumption) | exact vi_run (by with_reducible assumption) (by with_reducible assumption) | exact vi_run (by with_reducible assumption) (vi_runner _) | exact vi_mTask (by with_reducible assumption) | exact vi_mThing (by with_reducible assumption) | exact vi_mdecl (by with_reducible assumption) | exact vi_mready (by with_reducible assumption)), (by first | with_reducible assumption | exact vi_isIn7 (by with_reducible assumption) | exact vi_isThing (by with_reducible assumption) | exact vi_decl (by with_reducible assumption) | exact vi_ready (by with_reducible assumption) | exact vi_run (by with_reducible assumption) (by with_reducible assumption) | exact vi_run (by with_reducible assumption) (vi_runner _) | exact vi_mTask (by with_reducible assumption) | exact vi_mThing (by with_reducible assumption) | exact vi_mdecl (by with_reducible assumption) | exact vi_mready (by with_reducible assumption))⟩) | exact (fun _ => ⟨vi_latest (by with_reducible assumption) (by with_reducible assumption), vi_run (by with_reducible assumption) (by with_reducible assumption)⟩) | exact (fun _ => (by with_reducible assumption : ¬ v4 = 0 → _) (by with_reducible assumption)) | exact (fun _ => (by first | with_reducible assumption | exact vi_isIn7 (by with_reducible assumption) | exact vi_isThing (by with_reducible assumption) | exact vi_decl (by with_reducible assumption) | exact vi_ready (by with_reducible assumption) | exact vi_run (by with_reducible assumption) (by with_reducible assumption) | exact vi_run (by with_reducible assumption) (vi_runner _) | exact vi_mTask (by with_reducible assumption) | exact vi_mThing (by with_reducible assumption) | exact vi_mdecl (by with_reducible assumption) | exact vi_mready (by with_reducible assumption))) | exact (by first | with_reducible assumption | exact vi_isIn7 (by with_reducible assumption) | exact vi_isThing (by with_reducible assumption) | exact vi_decl (by with_reducible assumption) | exact vi_ready (by with_reducible assumption) | exact vi_run (by with_reducible assumption) (by with_reducible assumption) | exact vi_run (by with_reducible assumption) (vi_runner _) | exact vi_mTask (by with_reducible assumption) | exact vi_mThing (by with_reducible assumption) | exact vi_mdecl (by with_reducible assumption) | exact vi_mready (by with_reducible assumption))) he
      · have he := he.trans (if_pos hc2)
        refine lv_iload_n hx hb d_M_latest_20 rfl (lv_at hl 2 rfl) ?_
        refine lv_iconst (v := (-1)) hx hb d_M_latest_21 (by decide) ?_
        refine lv_icmp_eq (tgt := 40) hx hb d_M_latest_22 (by decide) (fun hc3 => ?_) (fun hc3 => ?_)
        · have he := he.trans (if_pos hc3)
          refine lv_iload_n hx hb d_M_latest_40 rfl (lv_at hl 3 rfl) ?_
          refine lv_goto (tgt := 45) hx hb d_M_latest_41 (by decide) ?_
          refine lv_istore_n hx hb d_M_latest_45 rfl hl (by decide) rfl (fun ls hl => ?_)
          have hl : lv_has ls 4 [(2, .int (nI i)), (0, .ref (ad 0)), (1, .int p1), (3, .int (nI i))] := hl
          refine lv_iinc (k := 3) (v := (nI (i + 1))) hx hb d_M_latest_46 hl rfl (by first | rfl | (rw [nI_succ]; rfl)) (by decide) rfl (fun ls hl => ?_)
          have hl : lv_has ls 4 [(3, .int (nI (i + 1))), (2, .int (nI i)), (0, .ref (ad 0)), (1, .int p1)] := hl
          refine lv_goto (tgt := 4) hx hb d_M_latest_49 (by decide) ?_
          exact ih (i + 1) (nI i) ls (by omega) (lv_sub hl [2, 3, 1, 0] rfl) (by first | with_reducible assumption | exact Or.inl rfl | exact (fun h9 => absurd h9 (by decide)) | exact (fun h9 => absurd rfl h9) | exact vi_runner _ | exact Or.inr (vp_in_nI (by omega) (by decide)) | exact Or.inr (by first | with_reducible assumption | exact vi_isIn7 (by with_reducible assumption) | exact vi_isThing (by with_reducible assumption) | exact vi_decl (by with_reducible assumption) | exact vi_ready (by with_reducible assumption) | exact vi_run (by with_reducible assumption) (by with_reducible assumption) | exact vi_run (by with_reducible assumption) (vi_runner _) | exact vi_mTask (by with_reducible assumption) | exact vi_mThing (by with_reducible assumption) | exact vi_mdecl (by with_reducible assumption) | exact vi_mready (by with_reducible assumption)) | exact (fun _ => ⟨(by first | with_reducible assumption | exact vi_isIn7 (by with_reducible assumption) | exact vi_isThing (by with_reducible assumption) | exact vi_decl (by with_reducible assumption) | exact vi_ready (by with_reducible assumption) | exact vi_run (by with_reducible assumption) (by with_reducible assumption) | exact vi_run (by with_reducible assumption) (vi_runner _) | exact vi_mTask (by with_reducible assumption) | exact vi_mThing (by with_reducible assumption) | exact vi_mdecl (by with_reducible assumption) | exact vi_mready (by with_reducible assumption)), (by first | with_reducible assumption | exact vi_isIn7 (by with_reducible assumption) | exact vi_isThing (by with_reducible assumption) | exact vi_decl (by with_reducible assumption) | exact vi_ready (by with_reducible assumption) | exact vi_run (by with_reducible assumption) (by with_reducible assumption) | exact vi_run (by with_reducible assumption) (vi_runner _) | exact vi_mTask (by with_reducible assumption) | exact vi_mThing (by with_reducible assumption) | exact vi_mdecl (by with_reducible assumption) | exact vi_mready (by with_reducible assumption))⟩) | exact (fun _ => ⟨vi_latest (by with_reducible assumption) (by with_reducible assumption), vi_run (by with_reducible assumption) (by with_reducible assumption)⟩) | exact (fun _ => (by with_reducible assumption : ¬ v4 = 0 → _) (by with_reducible assumption)) | exact (fun _ => (by first | with_reducible assumption | exact vi_isIn7 (by with_reducible assumption) | exact vi_isThing (by with_reducible assumption) | exact vi_decl (by with_reducible assumption) | exact vi_ready (by with_reducible assumption) | exact vi_run (by with_reducible assumption) (by with_reducible assumption) | exact vi_run (by with_reducible assumption) (vi_runner _) | exact vi_mTask (by with_reducible assumption) | exact vi_mThing (by with_reducible assumption) | exact vi_mdecl (by with_reducible assumption) | exact vi_mready (by with_reducible assumption))) | exact (by first | with_reducible assumption | exact vi_isIn7 (by with_reducible assumption) | exact vi_isThing (by with_reducible assumption) | exact vi_decl (by with_reducible assumption) | exact vi_ready (by with_reducible assumption) | exact vi_run (by with_reducible assumption) (by with_reducible assumption) | exact vi_run (by with_reducible assumption) (vi_runner _) | exact vi_mTask (by with_reducible assumption) | exact vi_mThing (by with_reducible assumption) | exact vi_mdecl (by with_reducible assumption) | exact vi_mready (by with_reducible assumption))) he
        · have he := he.trans (if_neg hc3)
          refine lv_aload_n hx hb d_M_latest_25 rfl (lv_at hl 0 rfl) ?_
          refine va_get (D := D) (ci := 4) (v := .ref (ad 11)) (C := R_M) (T := F_M) (N := 18) hx hb hts in_M hown hK hP 0 mw_0 rfl 14 (by decide) (hts _ k_448) (fun _ h9 => h9) rfl d_M_latest_26 ?_
          refine lv_iload_n hx hb d_M_latest_29 rfl (lv_at hl 3 rfl) ?_
          have hi4 : vp_in (nI i) 6 := (vp_in_nI (by omega) (by decide))
          refine va_iald hx hb hK hP 11 0 mw_11 rfl hi4 d_M_latest_30 ?_
          rw [show (nI i).toNatClampNeg = i from nI_clamp (by omega)]
          refine W.eq (g2 := F0 m 31 ls [.int (st 11 i)]) rfl ?_
          refine lv_aload_n hx hb d_M_latest_31 rfl (lv_at hl 0 rfl) ?_
          refine va_get (D := D) (ci := 4) (v := .ref (ad 11)) (C := R_M) (T := F_M) (N := 18) hx hb hts in_M hown hK hP 0 mw_0 rfl 14 (by decide) (hts _ k_448) (fun _ h9 => h9) rfl d_M_latest_32 ?_
          refine lv_iload_n hx hb d_M_latest_35 rfl (lv_at hl 2 rfl) ?_
          have hi5 : vp_in v2 6 := (by first | with_reducible assumption | exact vi_isIn7 (by with_reducible assumption) | exact vi_isThing (by with_reducible assumption) | exact vi_decl (by with_reducible assumption) | exact vi_ready (by with_reducible assumption) | exact vi_run (by with_reducible assumption) (by with_reducible assumption) | exact vi_run (by with_reducible assumption) (vi_runner _) | exact vi_mTask (by with_reducible assumption) | exact vi_mThing (by with_reducible assumption) | exact vi_mdecl (by with_reducible assumption) | exact vi_mready (by with_reducible assumption))
          refine va_iald hx hb hK hP 11 0 mw_11 rfl hi5 d_M_latest_36 ?_
          refine W.eq (g2 := F0 m 37 ls [.int (st 11 v2.toNatClampNeg), .int (st 11 i)]) rfl ?_
          refine lv_icmp_le (tgt := 44) hx hb d_M_latest_37 (by decide) (fun hc6 => ?_) (fun hc6 => ?_)
          · have he := he.trans (if_pos hc6)
            refine lv_iload_n hx hb d_M_latest_44 rfl (lv_at hl 2 rfl) ?_
            refine lv_istore_n hx hb d_M_latest_45 rfl hl (by decide) rfl (fun ls hl => ?_)
            have hl : lv_has ls 4 [(2, .int v2), (0, .ref (ad 0)), (1, .int p1), (3, .int (nI i))] := hl
            refine lv_iinc (k := 3) (v := (nI (i + 1))) hx hb d_M_latest_46 hl rfl (by first | rfl | (rw [nI_succ]; rfl)) (by decide) rfl (fun ls hl => ?_)
            have hl : lv_has ls 4 [(3, .int (nI (i + 1))), (2, .int v2), (0, .ref (ad 0)), (1, .int p1)] := hl
            refine lv_goto (tgt := 4) hx hb d_M_latest_49 (by decide) ?_
            exact ih (i + 1) v2 ls (by omega) (lv_sub hl [2, 3, 1, 0] rfl) (by first | with_reducible assumption | exact Or.inl rfl | exact (fun h9 => absurd h9 (by decide)) | exact (fun h9 => absurd rfl h9) | exact vi_runner _ | exact Or.inr (vp_in_nI (by omega) (by decide)) | exact Or.inr (by first | with_reducible assumption | exact vi_isIn7 (by with_reducible assumption) | exact vi_isThing (by with_reducible assumption) | exact vi_decl (by with_reducible assumption) | exact vi_ready (by with_reducible assumption) | exact vi_run (by with_reducible assumption) (by with_reducible assumption) | exact vi_run (by with_reducible assumption) (vi_runner _) | exact vi_mTask (by with_reducible assumption) | exact vi_mThing (by with_reducible assumption) | exact vi_mdecl (by with_reducible assumption) | exact vi_mready (by with_reducible assumption)) | exact (fun _ => ⟨(by first | with_reducible assumption | exact vi_isIn7 (by with_reducible assumption) | exact vi_isThing (by with_reducible assumption) | exact vi_decl (by with_reducible assumption) | exact vi_ready (by with_reducible assumption) | exact vi_run (by with_reducible assumption) (by with_reducible assumption) | exact vi_run (by with_reducible assumption) (vi_runner _) | exact vi_mTask (by with_reducible assumption) | exact vi_mThing (by with_reducible assumption) | exact vi_mdecl (by with_reducible assumption) | exact vi_mready (by with_reducible assumption)), (by first | with_reducible assumption | exact vi_isIn7 (by with_reducible assumption) | exact vi_isThing (by with_reducible assumption) | exact vi_decl (by with_reducible assumption) | exact vi_ready (by with_reducible assumption) | exact vi_run (by with_reducible assumption) (by with_reducible assumption) | exact vi_run (by with_reducible assumption) (vi_runner _) | exact vi_mTask (by with_reducible assumption) | exact vi_mThing (by with_reducible assumption) | exact vi_mdecl (by with_reducible assumption) | exact vi_mready (by with_reducible assumption))⟩) | exact (fun _ => ⟨vi_latest (by with_reducible assumption) (by with_reducible assumption), vi_run (by with_reducible assumption) (by with_reducible assumption)⟩) | exact (fun _ => (by with_reducible assumption : ¬ v4 = 0 → _) (by with_reducible assumption)) | exact (fun _ => (by first | with_reducible assumption | exact vi_isIn7 (by with_reducible assumption) | exact vi_isThing (by with_reducible assumption) | exact vi_decl (by with_reducible assumption) | exact vi_ready (by with_reducible assumption) | exact vi_run (by with_reducible assumption) (by with_reducible assumption) | exact vi_run (by with_reducible assumption) (vi_runner _) | exact vi_mTask (by with_reducible assumption) | exact vi_mThing (by with_reducible assumption) | exact vi_mdecl (by with_reducible assumption) | exact vi_mready (by with_reducible assumption))) | exact (by first | with_reducible assumption | exact vi_isIn7 (by with_reducible assumption) | exact vi_isThing (by with_reducible assumption) | exact vi_decl (by with_reducible assumption) | exact vi_ready (by with_reducible assumption) | exact vi_run (by with_reducible assumption) (by with_reducible assumption) | exact vi_run (by with_reducible assumption) (vi_runner _) | exact vi_mTask (by with_reducible assumption) | exact vi_mThing (by with_reducible assumption) | exact vi_mdecl (by with_reducible assumption) | exact vi_mready (by with_reducible assumption))) he
          · have he := he.trans (if_neg hc6)
            refine lv_iload_n hx hb d_M_latest_40 rfl (lv_at hl 3 rfl) ?_
            refine lv_goto (tgt := 45) hx hb d_M_latest_41 (by decide) ?_
            refine lv_istore_n hx hb d_M_latest_45 rfl hl (by decide) rfl (fun ls hl => ?_)
            have hl : lv_has ls 4 [(2, .int (nI i)), (0, .ref (ad 0)), (1, .int p1), (3, .int (nI i))] := hl
            refine lv_iinc (k := 3) (v := (nI (i + 1))) hx hb d_M_latest_46 hl rfl (by first | rfl | (rw [nI_succ]; rfl)) (by decide) rfl (fun ls hl => ?_)
            have hl : lv_has ls 4 [(3, .int (nI (i + 1))), (2, .int (nI i)), (0, .ref (ad 0)), (1, .int p1)] := hl
            refine lv_goto (tgt := 4) hx hb d_M_latest_49 (by decide) ?_
            exact ih (i + 1) (nI i) ls (by omega) (lv_sub hl [2, 3, 1, 0] rfl) (by first | with_reducible assumption | exact Or.inl rfl | exact (fun h9 => absurd h9 (by decide)) | exact (fun h9 => absurd rfl h9) | exact vi_runner _ | exact Or.inr (vp_in_nI (by omega) (by decide)) | exact Or.inr (by first | with_reducible assumption | exact vi_isIn7 (by with_reducible assumption) | exact vi_isThing (by with_reducible assumption) | exact vi_decl (by with_reducible assumption) | exact vi_ready (by with_reducible assumption) | exact vi_run (by with_reducible assumption) (by with_reducible assumption) | exact vi_run (by with_reducible assumption) (vi_runner _) | exact vi_mTask (by with_reducible assumption) | exact vi_mThing (by with_reducible assumption) | exact vi_mdecl (by with_reducible assumption) | exact vi_mready (by with_reducible assumption)) | exact (fun _ => ⟨(by first | with_reducible assumption | exact vi_isIn7 (by with_reducible assumption) | exact vi_isThing (by with_reducible assumption) | exact vi_decl (by with_reducible assumption) | exact vi_ready (by with_reducible assumption) | exact vi_run (by with_reducible assumption) (by with_reducible assumption) | exact vi_run (by with_reducible assumption) (vi_runner _) | exact vi_mTask (by with_reducible assumption) | exact vi_mThing (by with_reducible assumption) | exact vi_mdecl (by with_reducible assumption) | exact vi_mready (by with_reducible assumption)), (by first | with_reducible assumption | exact vi_isIn7 (by with_reducible assumption) | exact vi_isThing (by with_reducible assumption) | exact vi_decl (by with_reducible assumption) | exact vi_ready (by with_reducible assumption) | exact vi_run (by with_reducible assumption) (by with_reducible assumption) | exact vi_run (by with_reducible assumption) (vi_runner _) | exact vi_mTask (by with_reducible assumption) | exact vi_mThing (by with_reducible assumption) | exact vi_mdecl (by with_reducible assumption) | exact vi_mready (by with_reducible assumption))⟩) | exact (fun _ => ⟨vi_latest (by with_reducible assumption) (by with_reducible assumption), vi_run (by with_reducible assumption) (by with_reducible assumption)⟩) | exact (fun _ => (by with_reducible assumption : ¬ v4 = 0 → _) (by with_reducible assumption)) | exact (fun _ => (by first | with_reducible assumption | exact vi_isIn7 (by with_reducible assumption) | exact vi_isThing (by with_reducible assumption) | exact vi_decl (by with_reducible assumption) | exact vi_ready (by with_reducible assumption) | exact vi_run (by with_reducible assumption) (by with_reducible assumption) | exact vi_run (by with_reducible assumption) (vi_runner _) | exact vi_mTask (by with_reducible assumption) | exact vi_mThing (by with_reducible assumption) | exact vi_mdecl (by with_reducible assumption) | exact vi_mready (by with_reducible assumption))) | exact (by first | with_reducible assumption | exact vi_isIn7 (by with_reducible assumption) | exact vi_isThing (by with_reducible assumption) | exact vi_decl (by with_reducible assumption) | exact vi_ready (by with_reducible assumption) | exact vi_run (by with_reducible assumption) (by with_reducible assumption) | exact vi_run (by with_reducible assumption) (vi_runner _) | exact vi_mTask (by with_reducible assumption) | exact vi_mThing (by with_reducible assumption) | exact vi_mdecl (by with_reducible assumption) | exact vi_mready (by with_reducible assumption))) he
  have he := f_M_latest.eq_1 st p1
  refine lv_iconst (v := (-1)) hx hb d_M_latest_0 (by decide) ?_
  refine lv_istore_n hx hb d_M_latest_1 rfl hl (by decide) rfl (fun ls hl => ?_)
  have hl : lv_has ls 4 [(2, .int (-1)), (0, .ref (ad 0)), (1, .int p1)] := hl
  refine lv_iconst (v := 0) hx hb d_M_latest_2 (by decide) ?_
  refine lv_istore_n hx hb d_M_latest_3 rfl hl (by decide) rfl (fun ls hl => ?_)
  have hl : lv_has ls 4 [(3, .int 0), (2, .int (-1)), (0, .ref (ad 0)), (1, .int p1)] := hl
  exact L4 6 0 (-1) ls (by first | decide | omega) (lv_sub hl [2, 3, 1, 0] rfl) (by first | with_reducible assumption | exact Or.inl rfl | exact (fun h9 => absurd h9 (by decide)) | exact (fun h9 => absurd rfl h9) | exact vi_runner _ | exact Or.inr (vp_in_nI (by omega) (by decide)) | exact Or.inr (by first | with_reducible assumption | exact vi_isIn7 (by with_reducible assumption) | exact vi_isThing (by with_reducible assumption) | exact vi_decl (by with_reducible assumption) | exact vi_ready (by with_reducible assumption) | exact vi_run (by with_reducible assumption) (by with_reducible assumption) | exact vi_run (by with_reducible assumption) (vi_runner _) | exact vi_mTask (by with_reducible assumption) | exact vi_mThing (by with_reducible assumption) | exact vi_mdecl (by with_reducible assumption) | exact vi_mready (by with_reducible assumption)) | exact (fun _ => ⟨(by first | with_reducible assumption | exact vi_isIn7 (by with_reducible assumption) | exact vi_isThing (by with_reducible assumption) | exact vi_decl (by with_reducible assumption) | exact vi_ready (by with_reducible assumption) | exact vi_run (by with_reducible assumption) (by with_reducible assumption) | exact vi_run (by with_reducible assumption) (vi_runner _) | exact vi_mTask (by with_reducible assumption) | exact vi_mThing (by with_reducible assumption) | exact vi_mdecl (by with_reducible assumption) | exact vi_mready (by with_reducible assumption)), (by first | with_reducible assumption | exact vi_isIn7 (by with_reducible assumption) | exact vi_isThing (by with_reducible assumption) | exact vi_decl (by with_reducible assumption) | exact vi_ready (by with_reducible assumption) | exact vi_run (by with_reducible assumption) (by with_reducible assumption) | exact vi_run (by with_reducible assumption) (vi_runner _) | exact vi_mTask (by with_reducible assumption) | exact vi_mThing (by with_reducible assumption) | exact vi_mdecl (by with_reducible assumption) | exact vi_mready (by with_reducible assumption))⟩) | exact (fun _ => ⟨vi_latest (by with_reducible assumption) (by with_reducible assumption), vi_run (by with_reducible assumption) (by with_reducible assumption)⟩) | exact (fun _ => (by with_reducible assumption : ¬ v4 = 0 → _) (by with_reducible assumption)) | exact (fun _ => (by first | with_reducible assumption | exact vi_isIn7 (by with_reducible assumption) | exact vi_isThing (by with_reducible assumption) | exact vi_decl (by with_reducible assumption) | exact vi_ready (by with_reducible assumption) | exact vi_run (by with_reducible assumption) (by with_reducible assumption) | exact vi_run (by with_reducible assumption) (vi_runner _) | exact vi_mTask (by with_reducible assumption) | exact vi_mThing (by with_reducible assumption) | exact vi_mdecl (by with_reducible assumption) | exact vi_mready (by with_reducible assumption))) | exact (by first | with_reducible assumption | exact vi_isIn7 (by with_reducible assumption) | exact vi_isThing (by with_reducible assumption) | exact vi_decl (by with_reducible assumption) | exact vi_ready (by with_reducible assumption) | exact vi_run (by with_reducible assumption) (by with_reducible assumption) | exact vi_run (by with_reducible assumption) (vi_runner _) | exact vi_mTask (by with_reducible assumption) | exact vi_mThing (by with_reducible assumption) | exact vi_mdecl (by with_reducible assumption) | exact vi_mready (by with_reducible assumption))) he
