set_option maxHeartbeats 4000000 in
set_option maxRecDepth 100000 in
theorem c_T_isUserOf (l : Launch) (D : va_G) (cI cT cH : ClassId) (ad : Nat → Nat) (st : St) (j0 : Nat) (p1 : Int32) (hj0 : j0 < 8) (hy0 : vp_in p1 6) : Met l y_T_isUserOf w_T_isUserOf { frames := 0, cells := 0, slots := 0, locals := 0 } (va_Pc [.ref (ad (5 + 2 * j0)), .int p1] (gW D cI cT cH (cw cI cT cH ad st))) (QcRead (f_T_isUserOf st j0 p1)) 0 0 (fun _ => False) := by
  refine Met.ofW (cc := b_T_isUserOf) (maxL := 2) (ret := (some .boolean)) (by decide +kernel) rfl ?_
  intro p e s m args below meth c s₁ B hml hv
  obtain ⟨rfl, hP, hK, hN⟩ := hv
  have hx := B.exec
  have hb := B.bytes
  have hr := B.returns
  have hlocks := B.notSynchronized
  have hts0 := atoms_spec (ws := w_T_isUserOf) B.pre
  have hts : ∀ w ∈ TT, w.before [.ref (ad (5 + 2 * j0)), .int p1].toArray s = true := fun w h => hts0 w (List.mem_cons_of_mem _ h)
  have hown : s.vm.findClass R_T = some m.cls := findClass_of_methodNamed B.named
  have hl := lv_entry ([.ref (ad (5 + 2 * j0)), .int p1]) (n := 2) (Nat.le_of_ble_eq_true rfl)
  rw [lg_entry_eq]
  generalize (lg_sl ([.ref (ad (5 + 2 * j0)), .int p1]) ++ List.replicate (2 - (lg_sl ([.ref (ad (5 + 2 * j0)), .int p1])).length) Slot.unset).toArray = ls at hl ⊢
  have hl : lv_has ls 2 [(0, .ref (ad (5 + 2 * j0))), (1, .int p1)] := hl
  have he := f_T_isUserOf.eq_1 st j0 p1
  refine lv_aload_n hx hb d_T_isUserOf_0 rfl (lv_at hl 0 rfl) ?_
  refine va_get (D := D) (ci := 1) (v := .ref (ad (5 + 2 * j0 + 1))) (C := R_T) (T := F_T) (N := 10) hx hb hts in_T hown hK hP (5 + 2 * j0) (cw_k hj0) rfl 3 (by decide) (hts _ k_73) (fun _ h9 => h9) rfl d_T_isUserOf_1 ?_
  refine lv_iload_n hx hb d_T_isUserOf_4 rfl (lv_at hl 1 rfl) ?_
  have hi1 : vp_in p1 6 := (by first | assumption | exact vp_in_nI (by omega) (by decide) | exact vi_isIn7 (by assumption) | exact vi_isThing (by assumption) | exact vi_decl (by assumption) | exact vi_ready (by assumption) | exact vi_run (by assumption) (by assumption) | exact vi_run (by assumption) (vi_runner _) | exact vi_fmod40 _ | exact vi_mTask (by assumption) | exact vi_mThing (by assumption) | exact vi_mdecl (by assumption) | exact vi_mready (by assumption) | exact vi_six (by assumption) (by assumption) | exact vi_six1 (by omega) (by assumption) | exact vi_d6 (by omega) | exact vi_r6 (by omega) | exact vi_mnote (by assumption) (by assumption))
  refine va_iald hx hb hK hP (5 + 2 * j0 + 1) 0 (cw_l hj0) rfl hi1 d_T_isUserOf_5 ?_
  refine W.eq (g2 := F0 m 6 ls [.int (st (5 + 2 * j0 + 1) p1.toNatClampNeg)]) rfl ?_
  refine lv_if_le (tgt := 13) hx hb d_T_isUserOf_6 (by decide) (fun hc2 => ?_) (fun hc2 => ?_)
  · have he := he.trans (if_pos hc2)
    refine lv_iconst (v := 0) hx hb d_T_isUserOf_13 (by decide) ?_
    exact W.zret (v := 0) hx hb hr (by decide) (fun t ht _ => ⟨by rw [he], ht⟩) (fun _ h => nomatch h) d_T_isUserOf_14
  · have he := he.trans (if_neg hc2)
    refine lv_iconst (v := 1) hx hb d_T_isUserOf_9 (by decide) ?_
    refine lv_goto (tgt := 14) hx hb d_T_isUserOf_10 (by decide) ?_
    exact W.zret (v := 1) hx hb hr (by decide) (fun t ht _ => ⟨by rw [he], ht⟩) (fun _ h => nomatch h) d_T_isUserOf_14
set_option maxHeartbeats 4000000 in
set_option maxRecDepth 100000 in
theorem c_T_makeReady (l : Launch) (D : va_G) (cI cT cH : ClassId) (ad : Nat → Nat) (st : St) (j0 : Nat) (p1 : Int32) (hI : ∀ i j, i < 27 → j < 27 → ad i = ad j → i = j) (hj0 : j0 < 8) : Met l y_T_makeReady w_T_makeReady { frames := 0, cells := 0, slots := 0, locals := 0 } (va_Pc [.ref (ad (5 + 2 * j0)), .int p1] (gW D cI cT cH (cw cI cT cH ad st))) (qV D (cw cI cT cH ad (f_T_makeReady st j0 p1)) (inA ad 27)) 0 0 (inA ad 27) := by
  refine Met.ofW (cc := b_T_makeReady) (maxL := 2) (ret := none) (by decide +kernel) rfl ?_
  intro p e s m args below meth c s₁ B hml hv
  obtain ⟨rfl, hP, hK, hN⟩ := hv
  have hx := B.exec
  have hb := B.bytes
  have hr := B.returns
  have hlocks := B.notSynchronized
  have hts0 := atoms_spec (ws := w_T_makeReady) B.pre
  have hts : ∀ w ∈ TT, w.before [.ref (ad (5 + 2 * j0)), .int p1].toArray s = true := fun w h => hts0 w (List.mem_cons_of_mem _ h)
  have hown : s.vm.findClass R_T = some m.cls := findClass_of_methodNamed B.named
  have hS : va_S (inA ad 27) s.heap s.heap [] := va_S.rf
  have hl := lv_entry ([.ref (ad (5 + 2 * j0)), .int p1]) (n := 2) (Nat.le_of_ble_eq_true rfl)
  rw [lg_entry_eq]
  generalize (lg_sl ([.ref (ad (5 + 2 * j0)), .int p1]) ++ List.replicate (2 - (lg_sl ([.ref (ad (5 + 2 * j0)), .int p1])).length) Slot.unset).toArray = ls at hl ⊢
  have hl : lv_has ls 2 [(0, .ref (ad (5 + 2 * j0))), (1, .int p1)] := hl
  have he := f_T_makeReady.eq_1 st j0 p1
  refine lv_aload_n hx hb d_T_makeReady_0 rfl (lv_at hl 0 rfl) ?_
  refine lv_iconst (v := 1) hx hb d_T_makeReady_1 (by decide) ?_
  refine va_put (D := D) (ci := 1) (v := .int 1) (ty := .boolean) (C := R_T) (T := F_T) (N := 10) hx hb hts in_T ft_T ft_T_ok n_T hown hK hP (cw_D hI) hS (5 + 2 * j0) (cw_k hj0) rfl 4 (by decide) (hts _ k_75) (fun _ h9 => h9) rfl (by decide +kernel) rfl rfl (Nat.le_of_ble_eq_true rfl) d_T_makeReady_2 (fun H locs hP _ hS => ?_)
  rw [cp_k (k := 4) hj0 (by decide) (by decide)] at hP
  generalize hw2 : wr st (5 + 2 * j0) 4 1 = sw1 at hP he
  refine W.eq (g2 := F0 m 5 ls []) rfl ?_
  rw [f_T_makeReady_S5] at he
  refine lv_aload_n hx hb d_T_makeReady_5 rfl (lv_at hl 0 rfl) ?_
  refine lv_aload_n hx hb d_T_makeReady_6 rfl (lv_at hl 0 rfl) ?_
  refine va_get (D := D) (ci := 1) (v := .int (sw1 (5 + 2 * j0) 0)) (C := R_T) (T := F_T) (N := 10) hx hb hts in_T hown hK hP (5 + 2 * j0) (cw_k hj0) rfl 0 (by decide) (hts _ k_67) (fun _ h9 => h9) rfl d_T_makeReady_7 ?_
  refine va_put (D := D) (ci := 1) (v := .int (sw1 (5 + 2 * j0) 0)) (ty := .int) (C := R_T) (T := F_T) (N := 10) hx hb hts in_T ft_T ft_T_ok n_T hown hK hP (cw_D hI) hS (5 + 2 * j0) (cw_k hj0) rfl 5 (by decide) (hts _ k_77) (fun _ h9 => h9) rfl (by decide +kernel) rfl rfl (Nat.le_of_ble_eq_true rfl) d_T_makeReady_10 (fun H locs hP _ hS => ?_)
  rw [cp_k (k := 5) hj0 (by decide) (by decide)] at hP
  generalize hw4 : wr sw1 (5 + 2 * j0) 5 (sw1 (5 + 2 * j0) 0) = sw3 at hP he
  refine W.eq (g2 := F0 m 13 ls []) rfl ?_
  rw [f_T_makeReady_S13] at he
  refine lv_aload_n hx hb d_T_makeReady_13 rfl (lv_at hl 0 rfl) ?_
  refine lv_iload_n hx hb d_T_makeReady_14 rfl (lv_at hl 1 rfl) ?_
  refine va_put (D := D) (ci := 1) (v := .int p1) (ty := .int) (C := R_T) (T := F_T) (N := 10) hx hb hts in_T ft_T ft_T_ok n_T hown hK hP (cw_D hI) hS (5 + 2 * j0) (cw_k hj0) rfl 6 (by decide) (hts _ k_79) (fun _ h9 => h9) rfl (by decide +kernel) rfl rfl (Nat.le_of_ble_eq_true rfl) d_T_makeReady_15 (fun H locs hP _ hS => ?_)
  rw [cp_k (k := 6) hj0 (by decide) (by decide)] at hP
  generalize hw6 : wr sw3 (5 + 2 * j0) 6 p1 = sw5 at hP he
  refine W.eq (g2 := F0 m 18 ls []) rfl ?_
  rw [f_T_makeReady_S18] at he
  refine lv_aload_n hx hb d_T_makeReady_18 rfl (lv_at hl 0 rfl) ?_
  refine lv_iconst (v := 0) hx hb d_T_makeReady_19 (by decide) ?_
  refine va_put (D := D) (ci := 1) (v := .int 0) (ty := .int) (C := R_T) (T := F_T) (N := 10) hx hb hts in_T ft_T ft_T_ok n_T hown hK hP (cw_D hI) hS (5 + 2 * j0) (cw_k hj0) rfl 8 (by decide) (hts _ k_82) (fun _ h9 => h9) rfl (by decide +kernel) rfl rfl (Nat.le_of_ble_eq_true rfl) d_T_makeReady_20 (fun H locs hP _ hS => ?_)
  rw [cp_k (k := 8) hj0 (by decide) (by decide)] at hP
  generalize hw8 : wr sw5 (5 + 2 * j0) 8 0 = sw7 at hP he
  refine W.eq (g2 := F0 m 23 ls []) rfl ?_
  rw [f_T_makeReady_S23] at he
  refine lv_aload_n hx hb d_T_makeReady_23 rfl (lv_at hl 0 rfl) ?_
  refine lv_iconst (v := 0) hx hb d_T_makeReady_24 (by decide) ?_
  refine va_put (D := D) (ci := 1) (v := .int 0) (ty := .int) (C := R_T) (T := F_T) (N := 10) hx hb hts in_T ft_T ft_T_ok n_T hown hK hP (cw_D hI) hS (5 + 2 * j0) (cw_k hj0) rfl 9 (by decide) (hts _ k_84) (fun _ h9 => h9) rfl (by decide +kernel) rfl rfl (Nat.le_of_ble_eq_true rfl) d_T_makeReady_25 (fun H locs hP _ hS => ?_)
  rw [cp_k (k := 9) hj0 (by decide) (by decide)] at hP
  generalize hw10 : wr sw7 (5 + 2 * j0) 9 0 = sw9 at hP he
  refine W.eq (g2 := F0 m 28 ls []) rfl ?_
  exact W.vret hx hb hr (fun t ht _ => ⟨⟨(), rfl, trivial, (by rw [he]; show va_P _ _ _ t.heap; rw [ht]; exact hP)⟩, hS.F ht⟩) hS.2.2 d_T_makeReady_28
set_option maxHeartbeats 4000000 in
set_option maxRecDepth 100000 in
theorem c_T_goesBefore (l : Launch) (D : va_G) (cI cT cH : ClassId) (ad : Nat → Nat) (st : St) (j0 : Nat) (j1 : Nat) (hj0 : j0 < 8) (hj1 : j1 < 8) : Met l y_T_goesBefore w_T_goesBefore { frames := 0, cells := 0, slots := 0, locals := 0 } (va_Pc [.ref (ad (5 + 2 * j0)), .ref (ad (5 + 2 * j1))] (gW D cI cT cH (cw cI cT cH ad st))) (QcRead (f_T_goesBefore st j0 j1)) 0 0 (fun _ => False) := by
  refine Met.ofW (cc := b_T_goesBefore) (maxL := 2) (ret := (some .boolean)) (by decide +kernel) rfl ?_
  intro p e s m args below meth c s₁ B hml hv
  obtain ⟨rfl, hP, hK, hN⟩ := hv
  have hx := B.exec
  have hb := B.bytes
  have hr := B.returns
  have hlocks := B.notSynchronized
  have hts0 := atoms_spec (ws := w_T_goesBefore) B.pre
  have hts : ∀ w ∈ TT, w.before [.ref (ad (5 + 2 * j0)), .ref (ad (5 + 2 * j1))].toArray s = true := fun w h => hts0 w (List.mem_cons_of_mem _ h)
  have hown : s.vm.findClass R_T = some m.cls := findClass_of_methodNamed B.named
  have hl := lv_entry ([.ref (ad (5 + 2 * j0)), .ref (ad (5 + 2 * j1))]) (n := 2) (Nat.le_of_ble_eq_true rfl)
  rw [lg_entry_eq]
  generalize (lg_sl ([.ref (ad (5 + 2 * j0)), .ref (ad (5 + 2 * j1))]) ++ List.replicate (2 - (lg_sl ([.ref (ad (5 + 2 * j0)), .ref (ad (5 + 2 * j1))])).length) Slot.unset).toArray = ls at hl ⊢
  have hl : lv_has ls 2 [(0, .ref (ad (5 + 2 * j0))), (1, .ref (ad (5 + 2 * j1)))] := hl
  have he := f_T_goesBefore.eq_1 st j0 j1
  refine lv_aload_n hx hb d_T_goesBefore_0 rfl (lv_at hl 0 rfl) ?_
  refine va_get (D := D) (ci := 1) (v := .int (st (5 + 2 * j0) 5)) (C := R_T) (T := F_T) (N := 10) hx hb hts in_T hown hK hP (5 + 2 * j0) (cw_k hj0) rfl 5 (by decide) (hts _ k_77) (fun _ h9 => h9) rfl d_T_goesBefore_1 ?_
  refine lv_aload_n hx hb d_T_goesBefore_4 rfl (lv_at hl 1 rfl) ?_
  refine va_get (D := D) (ci := 1) (v := .int (st (5 + 2 * j1) 5)) (C := R_T) (T := F_T) (N := 10) hx hb hts in_T hown hK hP (5 + 2 * j1) (cw_k hj1) rfl 5 (by decide) (hts _ k_77) (fun _ h9 => h9) rfl d_T_goesBefore_5 ?_
  refine lv_icmp_gt (tgt := 33) hx hb d_T_goesBefore_8 (by decide) (fun hc1 => ?_) (fun hc1 => ?_)
  · have he := he.trans (if_pos hc1)
    refine lv_iconst (v := 1) hx hb d_T_goesBefore_33 (by decide) ?_
    refine lv_goto (tgt := 38) hx hb d_T_goesBefore_34 (by decide) ?_
    exact W.zret (v := 1) hx hb hr (by decide) (fun t ht _ => ⟨by rw [he], ht⟩) (fun _ h => nomatch h) d_T_goesBefore_38
  · have he := he.trans (if_neg hc1)
    refine lv_aload_n hx hb d_T_goesBefore_11 rfl (lv_at hl 0 rfl) ?_
    refine va_get (D := D) (ci := 1) (v := .int (st (5 + 2 * j0) 5)) (C := R_T) (T := F_T) (N := 10) hx hb hts in_T hown hK hP (5 + 2 * j0) (cw_k hj0) rfl 5 (by decide) (hts _ k_77) (fun _ h9 => h9) rfl d_T_goesBefore_12 ?_
    refine lv_aload_n hx hb d_T_goesBefore_15 rfl (lv_at hl 1 rfl) ?_
    refine va_get (D := D) (ci := 1) (v := .int (st (5 + 2 * j1) 5)) (C := R_T) (T := F_T) (N := 10) hx hb hts in_T hown hK hP (5 + 2 * j1) (cw_k hj1) rfl 5 (by decide) (hts _ k_77) (fun _ h9 => h9) rfl d_T_goesBefore_16 ?_
    refine lv_icmp_ne (tgt := 37) hx hb d_T_goesBefore_19 (by decide) (fun hc2 => ?_) (fun hc2 => ?_)
    · have he := he.trans (if_neg hc2)
      refine lv_iconst (v := 0) hx hb d_T_goesBefore_37 (by decide) ?_
      exact W.zret (v := 0) hx hb hr (by decide) (fun t ht _ => ⟨by rw [he], ht⟩) (fun _ h => nomatch h) d_T_goesBefore_38
    · have he := he.trans (if_pos hc2)
      refine lv_aload_n hx hb d_T_goesBefore_22 rfl (lv_at hl 0 rfl) ?_
      refine va_get (D := D) (ci := 1) (v := .int (st (5 + 2 * j0) 6)) (C := R_T) (T := F_T) (N := 10) hx hb hts in_T hown hK hP (5 + 2 * j0) (cw_k hj0) rfl 6 (by decide) (hts _ k_79) (fun _ h9 => h9) rfl d_T_goesBefore_23 ?_
      refine lv_aload_n hx hb d_T_goesBefore_26 rfl (lv_at hl 1 rfl) ?_
      refine va_get (D := D) (ci := 1) (v := .int (st (5 + 2 * j1) 6)) (C := R_T) (T := F_T) (N := 10) hx hb hts in_T hown hK hP (5 + 2 * j1) (cw_k hj1) rfl 6 (by decide) (hts _ k_79) (fun _ h9 => h9) rfl d_T_goesBefore_27 ?_
      refine lv_icmp_ge (tgt := 37) hx hb d_T_goesBefore_30 (by decide) (fun hc3 => ?_) (fun hc3 => ?_)
      · have he := he.trans (if_pos hc3)
        refine lv_iconst (v := 0) hx hb d_T_goesBefore_37 (by decide) ?_
        exact W.zret (v := 0) hx hb hr (by decide) (fun t ht _ => ⟨by rw [he], ht⟩) (fun _ h => nomatch h) d_T_goesBefore_38
      · have he := he.trans (if_neg hc3)
        refine lv_iconst (v := 1) hx hb d_T_goesBefore_33 (by decide) ?_
        refine lv_goto (tgt := 38) hx hb d_T_goesBefore_34 (by decide) ?_
        exact W.zret (v := 1) hx hb hr (by decide) (fun t ht _ => ⟨by rw [he], ht⟩) (fun _ h => nomatch h) d_T_goesBefore_38
set_option maxHeartbeats 4000000 in
set_option maxRecDepth 100000 in
theorem c_T_demandIn (l : Launch) (D : va_G) (cI cT cH : ClassId) (ad : Nat → Nat) (st : St) (j0 : Nat) (p1 : Int32) (hj0 : j0 < 8) : Met l y_T_demandIn w_T_demandIn { frames := 1, cells := 0, slots := 0, locals := 20 } (va_Pc [.ref (ad (5 + 2 * j0)), .int p1] (gW D cI cT cH (cw cI cT cH ad st))) (QcRead (f_T_demandIn st j0 p1)) 0 0 (fun _ => False) := by
  refine Met.ofW (cc := b_T_demandIn) (maxL := 2) (ret := (some .int)) (by decide +kernel) rfl ?_
  intro p e s m args below meth c s₁ B hml hv
  obtain ⟨rfl, hP, hK, hN⟩ := hv
  have hx := B.exec
  have hb := B.bytes
  have hr := B.returns
  have hlocks := B.notSynchronized
  have hts0 := atoms_spec (ws := w_T_demandIn) B.pre
  have hts : ∀ w ∈ TT, w.before [.ref (ad (5 + 2 * j0)), .int p1].toArray s = true := fun w h => hts0 w (List.mem_cons_of_mem _ h)
  have hown : s.vm.findClass R_T = some m.cls := findClass_of_methodNamed B.named
  have hl := lv_entry ([.ref (ad (5 + 2 * j0)), .int p1]) (n := 2) (Nat.le_of_ble_eq_true rfl)
  rw [lg_entry_eq]
  generalize (lg_sl ([.ref (ad (5 + 2 * j0)), .int p1]) ++ List.replicate (2 - (lg_sl ([.ref (ad (5 + 2 * j0)), .int p1])).length) Slot.unset).toArray = ls at hl ⊢
  have hl : lv_has ls 2 [(0, .ref (ad (5 + 2 * j0))), (1, .int p1)] := hl
  have he := f_T_demandIn.eq_1 st j0 p1
  refine lv_aload_n hx hb d_T_demandIn_0 rfl (lv_at hl 0 rfl) ?_
  refine rdV (As := []) (rest := []) (na := 0) (c_T_isDeclared l D cI cT cH ad st j0 hj0) ⟨hx, hb, hml, hown, hts⟩ k_224 k_167 k_168 k_26 k_169 (by decide +kernel) (by decide) (by decide) hP hK hN (q0 := (5 + 2 * j0)) (ci := 1) (cw_k hj0) rfl rfl hl.1 rfl (by decide) d_T_demandIn_1 ?_
  refine lv_if_eq (tgt := 28) hx hb d_T_demandIn_4 (by decide) (fun hc1 => ?_) (fun hc1 => ?_)
  · have he := he.trans (if_pos hc1)
    refine lv_iconst (v := 0) hx hb d_T_demandIn_28 (by decide) ?_
    exact W.iret (v := 0) hx hb hr (fun t ht _ => ⟨by rw [he], ht⟩) (fun _ h => nomatch h) d_T_demandIn_29
  · have he := he.trans (if_neg hc1)
    refine lv_aload_n hx hb d_T_demandIn_7 rfl (lv_at hl 0 rfl) ?_
    refine va_get (D := D) (ci := 1) (v := .int (st (5 + 2 * j0) 1)) (C := R_T) (T := F_T) (N := 10) hx hb hts in_T hown hK hP (5 + 2 * j0) (cw_k hj0) rfl 1 (by decide) (hts _ k_69) (fun _ h9 => h9) rfl d_T_demandIn_8 ?_
    refine lv_iload_n hx hb d_T_demandIn_11 rfl (lv_at hl 1 rfl) ?_
    refine lv_aload_n hx hb d_T_demandIn_12 rfl (lv_at hl 0 rfl) ?_
    refine va_get (D := D) (ci := 1) (v := .int (st (5 + 2 * j0) 2)) (C := R_T) (T := F_T) (N := 10) hx hb hts in_T hown hK hP (5 + 2 * j0) (cw_k hj0) rfl 2 (by decide) (hts _ k_71) (fun _ h9 => h9) rfl d_T_demandIn_13 ?_
    refine lv_iadd hx hb d_T_demandIn_16 ?_
    refine lv_iconst (v := 1) hx hb d_T_demandIn_17 (by decide) ?_
    refine lv_isub hx hb d_T_demandIn_18 ?_
    refine lv_aload_n hx hb d_T_demandIn_19 rfl (lv_at hl 0 rfl) ?_
    refine va_get (D := D) (ci := 1) (v := .int (st (5 + 2 * j0) 2)) (C := R_T) (T := F_T) (N := 10) hx hb hts in_T hown hK hP (5 + 2 * j0) (cw_k hj0) rfl 2 (by decide) (hts _ k_71) (fun _ h9 => h9) rfl d_T_demandIn_20 ?_
    refine lv_idiv hx hb d_T_demandIn_23 (by first | decide | assumption | exact vi_ne0 (by assumption) | exact hy1 _ (by omega) (i32_pos (by assumption))) ?_
    refine lv_imul hx hb d_T_demandIn_24 ?_
    refine lv_goto (tgt := 29) hx hb d_T_demandIn_25 (by decide) ?_
    exact W.iret (v := ((st (5 + 2 * j0) 1) * (((p1 + (st (5 + 2 * j0) 2)) - 1) / (st (5 + 2 * j0) 2)))) hx hb hr (fun t ht _ => ⟨by rw [he], ht⟩) (fun _ h => nomatch h) d_T_demandIn_29
