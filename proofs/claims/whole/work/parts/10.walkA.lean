set_option maxHeartbeats 4000000 in
set_option maxRecDepth 100000 in
theorem c_J_floorMod (l : Launch) (p0 : Int32) (p1 : Int32) (hy0 : ¬ p1 = 0) : Met l y_J_floorMod w_J_floorMod { frames := 0, cells := 0, slots := 0, locals := 0 } (va_Pc [.int p0, .int p1] (fun _ => True)) (QcRead (f_J_floorMod p0 p1)) 0 0 (fun _ => False) := by
  refine va_MetF (cc := b_J_floorMod) (maxL := 3) (ret := (some .int)) (by decide +kernel) rfl ?_
  intro p e s m args below meth c s₁ B hml hv
  obtain ⟨rfl, -⟩ := hv
  have hx := B.exec
  have hb := B.bytes
  have hr := B.returns
  have hlocks := B.notSynchronized
  have hts0 := atoms_spec (ws := w_J_floorMod) B.pre
  have hts : ∀ w ∈ TT, w.before [.int p0, .int p1].toArray s = true := fun w h => hts0 w (List.mem_cons_of_mem _ h)
  have hown : s.vm.findClass R_J = some m.cls := findClass_of_methodNamed B.named
  have hl := lv_entry ([.int p0, .int p1]) (n := 3) (Nat.le_of_ble_eq_true rfl)
  rw [lg_entry_eq]
  generalize (lg_sl ([.int p0, .int p1]) ++ List.replicate (3 - (lg_sl ([.int p0, .int p1])).length) Slot.unset).toArray = ls at hl ⊢
  have hl : lv_has ls 3 [(0, .int p0), (1, .int p1)] := hl
  have he := f_J_floorMod.eq_1 p0 p1
  refine lv_iload_n hx hb d_J_floorMod_0 rfl (lv_at hl 0 rfl) ?_
  refine lv_iload_n hx hb d_J_floorMod_1 rfl (lv_at hl 1 rfl) ?_
  refine lv_irem hx hb d_J_floorMod_2 (by first | with_reducible assumption | exact vi_ne0 (by with_reducible assumption) | exact hy1 _ (by omega) (i32_pos (by with_reducible assumption)) | decide) ?_
  refine W.eq (g2 := F0 m 3 ls [.int (irem p0 p1)]) rfl ?_
  refine lv_istore_n hx hb d_J_floorMod_3 rfl hl (by decide) rfl (fun ls hl => ?_)
  have hl : lv_has ls 3 [(2, .int (irem p0 p1)), (0, .int p0), (1, .int p1)] := hl
  refine lv_iload_n hx hb d_J_floorMod_4 rfl (lv_at hl 1 rfl) ?_
  refine lv_iload_n hx hb d_J_floorMod_5 rfl (lv_at hl 2 rfl) ?_
  refine lv_ixor hx hb d_J_floorMod_6 ?_
  refine lv_if_ge (tgt := 18) hx hb d_J_floorMod_7 (by decide) (fun hc1 => ?_) (fun hc1 => ?_)
  · have he := he.trans (if_pos hc1)
    refine lv_iload_n hx hb d_J_floorMod_18 rfl (lv_at hl 0 rfl) ?_
    exact W.iret (v := (irem p0 p1)) hx hb hr (fun t ht _ => ⟨by rw [he], ht⟩) (fun _ h => nomatch h) d_J_floorMod_19
  · have he := he.trans (if_neg hc1)
    refine lv_iload_n hx hb d_J_floorMod_10 rfl (lv_at hl 0 rfl) ?_
    refine lv_if_eq (tgt := 18) hx hb d_J_floorMod_11 (by decide) (fun hc2 => ?_) (fun hc2 => ?_)
    · have he := he.trans (if_pos hc2)
      refine lv_iload_n hx hb d_J_floorMod_18 rfl (lv_at hl 0 rfl) ?_
      exact W.iret (v := (irem p0 p1)) hx hb hr (fun t ht _ => ⟨by rw [he], ht⟩) (fun _ h => nomatch h) d_J_floorMod_19
    · have he := he.trans (if_neg hc2)
      refine lv_iload_n hx hb d_J_floorMod_14 rfl (lv_at hl 0 rfl) ?_
      refine lv_iload_n hx hb d_J_floorMod_15 rfl (lv_at hl 2 rfl) ?_
      refine lv_iadd hx hb d_J_floorMod_16 ?_
      exact W.iret (v := ((irem p0 p1) + p1)) hx hb hr (fun t ht _ => ⟨by rw [he], ht⟩) (fun _ h => nomatch h) d_J_floorMod_17
set_option maxHeartbeats 4000000 in
set_option maxRecDepth 100000 in
theorem c_C_isIn (l : Launch) (p0 : Int32) (p1 : Int32) (p2 : Int32) : Met l y_C_isIn w_C_isIn { frames := 0, cells := 0, slots := 0, locals := 0 } (va_Pc [.int p0, .int p1, .int p2] (fun _ => True)) (QcRead (f_C_isIn p0 p1 p2)) 0 0 (fun _ => False) := by
  refine Met.ofW (cc := b_C_isIn) (maxL := 3) (ret := (some .boolean)) (by decide +kernel) rfl ?_
  intro p e s m args below meth c s₁ B hml hv
  obtain ⟨rfl, -⟩ := hv
  have hx := B.exec
  have hb := B.bytes
  have hr := B.returns
  have hlocks := B.notSynchronized
  have hts0 := atoms_spec (ws := w_C_isIn) B.pre
  have hts : ∀ w ∈ TT, w.before [.int p0, .int p1, .int p2].toArray s = true := fun w h => hts0 w (List.mem_cons_of_mem _ h)
  have hown : s.vm.findClass R_C = some m.cls := findClass_of_methodNamed B.named
  have hl := lv_entry ([.int p0, .int p1, .int p2]) (n := 3) (Nat.le_of_ble_eq_true rfl)
  rw [lg_entry_eq]
  generalize (lg_sl ([.int p0, .int p1, .int p2]) ++ List.replicate (3 - (lg_sl ([.int p0, .int p1, .int p2])).length) Slot.unset).toArray = ls at hl ⊢
  have hl : lv_has ls 3 [(0, .int p0), (1, .int p1), (2, .int p2)] := hl
  have he := f_C_isIn.eq_1 p0 p1 p2
  refine lv_iload_n hx hb d_C_isIn_0 rfl (lv_at hl 0 rfl) ?_
  refine lv_iload_n hx hb d_C_isIn_1 rfl (lv_at hl 1 rfl) ?_
  refine lv_icmp_lt (tgt := 14) hx hb d_C_isIn_2 (by decide) (fun hc1 => ?_) (fun hc1 => ?_)
  · have he := he.trans (if_pos hc1)
    refine lv_iconst (v := 0) hx hb d_C_isIn_14 (by decide) ?_
    exact W.zret (v := 0) hx hb hr (by decide) (fun t ht _ => ⟨by rw [he], ht⟩) (fun _ h => nomatch h) d_C_isIn_15
  · have he := he.trans (if_neg hc1)
    refine lv_iload_n hx hb d_C_isIn_5 rfl (lv_at hl 0 rfl) ?_
    refine lv_iload_n hx hb d_C_isIn_6 rfl (lv_at hl 2 rfl) ?_
    refine lv_icmp_gt (tgt := 14) hx hb d_C_isIn_7 (by decide) (fun hc2 => ?_) (fun hc2 => ?_)
    · have he := he.trans (if_pos hc2)
      refine lv_iconst (v := 0) hx hb d_C_isIn_14 (by decide) ?_
      exact W.zret (v := 0) hx hb hr (by decide) (fun t ht _ => ⟨by rw [he], ht⟩) (fun _ h => nomatch h) d_C_isIn_15
    · have he := he.trans (if_neg hc2)
      refine lv_iconst (v := 1) hx hb d_C_isIn_10 (by decide) ?_
      refine lv_goto (tgt := 15) hx hb d_C_isIn_11 (by decide) ?_
      exact W.zret (v := 1) hx hb hr (by decide) (fun t ht _ => ⟨by rw [he], ht⟩) (fun _ h => nomatch h) d_C_isIn_15
set_option maxHeartbeats 4000000 in
set_option maxRecDepth 100000 in
theorem c_C_isThing (l : Launch) (p0 : Int32) : Met l y_C_isThing w_C_isThing { frames := 1, cells := 0, slots := 0, locals := 22 } (va_Pc [.int p0] (fun _ => True)) (QcRead (f_C_isThing p0)) 0 0 (fun _ => False) := by
  refine Met.ofW (cc := b_C_isThing) (maxL := 1) (ret := (some .boolean)) (by decide +kernel) rfl ?_
  intro p e s m args below meth c s₁ B hml hv
  obtain ⟨rfl, -⟩ := hv
  have hx := B.exec
  have hb := B.bytes
  have hr := B.returns
  have hlocks := B.notSynchronized
  have hts0 := atoms_spec (ws := w_C_isThing) B.pre
  have hts : ∀ w ∈ TT, w.before [.int p0].toArray s = true := fun w h => hts0 w (List.mem_cons_of_mem _ h)
  have hown : s.vm.findClass R_C = some m.cls := findClass_of_methodNamed B.named
  have hl := lv_entry ([.int p0]) (n := 1) (Nat.le_of_ble_eq_true rfl)
  rw [lg_entry_eq]
  generalize (lg_sl ([.int p0]) ++ List.replicate (1 - (lg_sl ([.int p0])).length) Slot.unset).toArray = ls at hl ⊢
  have hl : lv_has ls 1 [(0, .int p0)] := hl
  have he := f_C_isThing.eq_1 p0
  refine lv_iload_n hx hb d_C_isThing_0 rfl (lv_at hl 0 rfl) ?_
  refine lv_iconst (v := 0) hx hb d_C_isThing_1 (by decide) ?_
  refine lv_iconst (v := 5) hx hb d_C_isThing_2 (by decide) ?_
  refine rdS (As := [.int p0, .int 0, .int 5]) (rest := []) (na := 3) (c_C_isIn l p0 0 5 ) ⟨hx, hb, hml, hown, hts⟩ k_163 k_164 k_24 k_165 (by decide +kernel) (by decide) (by decide) rfl hl.1 rfl (Nat.le_of_ble_eq_true rfl) d_C_isThing_3 ?_
  exact W.zret (v := (f_C_isIn p0 0 5)) hx hb hr (nb_isIn _ _ _) (fun t ht _ => ⟨by rw [he], ht⟩) (fun _ h => nomatch h) d_C_isThing_6
set_option maxHeartbeats 4000000 in
set_option maxRecDepth 100000 in
theorem c_T_isDeclared (l : Launch) (D : va_G) (cI cT cH : ClassId) (ad : Nat → Nat) (st : St) (j0 : Nat) (hj0 : j0 < 8) : Met l y_T_isDeclared w_T_isDeclared { frames := 0, cells := 0, slots := 0, locals := 0 } (va_Pc [.ref (ad (5 + 2 * j0))] (gW D cI cT cH (cw cI cT cH ad st))) (QcRead (f_T_isDeclared st j0)) 0 0 (fun _ => False) := by
  refine Met.ofW (cc := b_T_isDeclared) (maxL := 1) (ret := (some .boolean)) (by decide +kernel) rfl ?_
  intro p e s m args below meth c s₁ B hml hv
  obtain ⟨rfl, hP, hK, hN⟩ := hv
  have hx := B.exec
  have hb := B.bytes
  have hr := B.returns
  have hlocks := B.notSynchronized
  have hts0 := atoms_spec (ws := w_T_isDeclared) B.pre
  have hts : ∀ w ∈ TT, w.before [.ref (ad (5 + 2 * j0))].toArray s = true := fun w h => hts0 w (List.mem_cons_of_mem _ h)
  have hown : s.vm.findClass R_T = some m.cls := findClass_of_methodNamed B.named
  have hl := lv_entry ([.ref (ad (5 + 2 * j0))]) (n := 1) (Nat.le_of_ble_eq_true rfl)
  rw [lg_entry_eq]
  generalize (lg_sl ([.ref (ad (5 + 2 * j0))]) ++ List.replicate (1 - (lg_sl ([.ref (ad (5 + 2 * j0))])).length) Slot.unset).toArray = ls at hl ⊢
  have hl : lv_has ls 1 [(0, .ref (ad (5 + 2 * j0)))] := hl
  have he := f_T_isDeclared.eq_1 st j0
  refine lv_aload_n hx hb d_T_isDeclared_0 rfl (lv_at hl 0 rfl) ?_
  refine va_get (D := D) (ci := 1) (v := .int (st (5 + 2 * j0) 2)) (C := R_T) (T := F_T) (N := 10) hx hb hts in_T hown hK hP (5 + 2 * j0) (cw_k hj0) rfl 2 (by decide) (hts _ k_71) (fun _ h9 => h9) rfl d_T_isDeclared_1 ?_
  refine lv_if_le (tgt := 11) hx hb d_T_isDeclared_4 (by decide) (fun hc1 => ?_) (fun hc1 => ?_)
  · have he := he.trans (if_pos hc1)
    refine lv_iconst (v := 0) hx hb d_T_isDeclared_11 (by decide) ?_
    exact W.zret (v := 0) hx hb hr (by decide) (fun t ht _ => ⟨by rw [he], ht⟩) (fun _ h => nomatch h) d_T_isDeclared_12
  · have he := he.trans (if_neg hc1)
    refine lv_iconst (v := 1) hx hb d_T_isDeclared_7 (by decide) ?_
    refine lv_goto (tgt := 12) hx hb d_T_isDeclared_8 (by decide) ?_
    exact W.zret (v := 1) hx hb hr (by decide) (fun t ht _ => ⟨by rw [he], ht⟩) (fun _ h => nomatch h) d_T_isDeclared_12
set_option maxHeartbeats 4000000 in
set_option maxRecDepth 100000 in
theorem c_T_isUserOf (l : Launch) (D : va_G) (cI cT cH : ClassId) (ad : Nat → Nat) (st : St) (j0 : Nat) (p1 : Int32) (hj0 : j0 < 8) (hy0 : vp_in p1 6) : Met l y_T_isUserOf w_T_isUserOf { frames := 0, cells := 0, slots := 0, locals := 0 } (va_Pc [.ref (ad (5 + 2 * j0)), .int p1] (gW D cI cT cH (cw cI cT cH ad st))) (QcRead (f_T_isUserOf st j0 p1)) 0 0 (fun _ => False) := by
  refine Met.ofW (cc := b_T_isUserOf) (maxL := 2) (ret := (some .boolean)) (by decide +kernel) rfl ?_
  intro p e s m args below meth c s₁ B hml hv
  obtain ⟨rfl, hP, hK, hN⟩ := hv
  have hx := B.exec
  have hb := B.bytes
  have hr := B.returns
  have hlocks := B.notSynchronized
  have hts0 := atoms_spec (ws := w_T_isUserOf) B.pre
  have hts : ∀ w ∈ TT, w.before [.ref (ad (5 + 2 * j0)), .int p1].toArray s = true := fun w h => hts0 w (List.mem_cons_of_mem _ h)
  have hown : s.vm.findClass R_T = some m.cls := findClass_of_methodNamed B.named
  have hl := lv_entry ([.ref (ad (5 + 2 * j0)), .int p1]) (n := 2) (Nat.le_of_ble_eq_true rfl)
  rw [lg_entry_eq]
  generalize (lg_sl ([.ref (ad (5 + 2 * j0)), .int p1]) ++ List.replicate (2 - (lg_sl ([.ref (ad (5 + 2 * j0)), .int p1])).length) Slot.unset).toArray = ls at hl ⊢
  have hl : lv_has ls 2 [(0, .ref (ad (5 + 2 * j0))), (1, .int p1)] := hl
  have he := f_T_isUserOf.eq_1 st j0 p1
  refine lv_aload_n hx hb d_T_isUserOf_0 rfl (lv_at hl 0 rfl) ?_
  refine va_get (D := D) (ci := 1) (v := .ref (ad (5 + 2 * j0 + 1))) (C := R_T) (T := F_T) (N := 10) hx hb hts in_T hown hK hP (5 + 2 * j0) (cw_k hj0) rfl 3 (by decide) (hts _ k_73) (fun _ h9 => h9) rfl d_T_isUserOf_1 ?_
  refine lv_iload_n hx hb d_T_isUserOf_4 rfl (lv_at hl 1 rfl) ?_
  have hi1 : vp_in p1 6 := (by first | with_reducible assumption | exact vi_isIn7 (by with_reducible assumption) | exact vi_isThing (by with_reducible assumption) | exact vi_decl (by with_reducible assumption) | exact vi_ready (by with_reducible assumption) | exact vi_run (by with_reducible assumption) (by with_reducible assumption) | exact vi_run (by with_reducible assumption) (vi_runner _) | exact vi_mTask (by with_reducible assumption) | exact vi_mThing (by with_reducible assumption) | exact vi_mdecl (by with_reducible assumption) | exact vi_mready (by with_reducible assumption))
  refine va_iald hx hb hK hP (5 + 2 * j0 + 1) 0 (cw_l hj0) rfl hi1 d_T_isUserOf_5 ?_
  refine W.eq (g2 := F0 m 6 ls [.int (st (5 + 2 * j0 + 1) p1.toNatClampNeg)]) rfl ?_
  refine lv_if_le (tgt := 13) hx hb d_T_isUserOf_6 (by decide) (fun hc2 => ?_) (fun hc2 => ?_)
  · have he := he.trans (if_pos hc2)
    refine lv_iconst (v := 0) hx hb d_T_isUserOf_13 (by decide) ?_
    exact W.zret (v := 0) hx hb hr (by decide) (fun t ht _ => ⟨by rw [he], ht⟩) (fun _ h => nomatch h) d_T_isUserOf_14
  · have he := he.trans (if_neg hc2)
    refine lv_iconst (v := 1) hx hb d_T_isUserOf_9 (by decide) ?_
    refine lv_goto (tgt := 14) hx hb d_T_isUserOf_10 (by decide) ?_
    exact W.zret (v := 1) hx hb hr (by decide) (fun t ht _ => ⟨by rw [he], ht⟩) (fun _ h => nomatch h) d_T_isUserOf_14
set_option maxHeartbeats 4000000 in
set_option maxRecDepth 100000 in
theorem c_T_makeReady (l : Launch) (D : va_G) (cI cT cH : ClassId) (ad : Nat → Nat) (st : St) (j0 : Nat) (p1 : Int32) (hI : ∀ i j, i < 27 → j < 27 → ad i = ad j → i = j) (hj0 : j0 < 8) : Met l y_T_makeReady w_T_makeReady { frames := 0, cells := 0, slots := 0, locals := 0 } (va_Pc [.ref (ad (5 + 2 * j0)), .int p1] (gW D cI cT cH (cw cI cT cH ad st))) (qV D (cw cI cT cH ad (f_T_makeReady st j0 p1)) (inA ad 27)) 0 0 (inA ad 27) := by
  refine Met.ofW (cc := b_T_makeReady) (maxL := 2) (ret := none) (by decide +kernel) rfl ?_
  intro p e s m args below meth c s₁ B hml hv
  obtain ⟨rfl, hP, hK, hN⟩ := hv
  have hx := B.exec
  have hb := B.bytes
  have hr := B.returns
  have hlocks := B.notSynchronized
  have hts0 := atoms_spec (ws := w_T_makeReady) B.pre
  have hts : ∀ w ∈ TT, w.before [.ref (ad (5 + 2 * j0)), .int p1].toArray s = true := fun w h => hts0 w (List.mem_cons_of_mem _ h)
  have hown : s.vm.findClass R_T = some m.cls := findClass_of_methodNamed B.named
  have hS : va_S (inA ad 27) s.heap s.heap [] := va_S.rf
  have hl := lv_entry ([.ref (ad (5 + 2 * j0)), .int p1]) (n := 2) (Nat.le_of_ble_eq_true rfl)
  rw [lg_entry_eq]
  generalize (lg_sl ([.ref (ad (5 + 2 * j0)), .int p1]) ++ List.replicate (2 - (lg_sl ([.ref (ad (5 + 2 * j0)), .int p1])).length) Slot.unset).toArray = ls at hl ⊢
  have hl : lv_has ls 2 [(0, .ref (ad (5 + 2 * j0))), (1, .int p1)] := hl
  have he := f_T_makeReady.eq_1 st j0 p1
  refine lv_aload_n hx hb d_T_makeReady_0 rfl (lv_at hl 0 rfl) ?_
  refine lv_iconst (v := 1) hx hb d_T_makeReady_1 (by decide) ?_
  refine va_put (D := D) (ci := 1) (v := .int 1) (ty := .boolean) (C := R_T) (T := F_T) (N := 10) hx hb hts in_T ft_T ft_T_ok n_T hown hK hP (cw_D hI) hS (5 + 2 * j0) (cw_k hj0) rfl 4 (by decide) (hts _ k_75) (fun _ h9 => h9) rfl (by decide +kernel) rfl rfl (Nat.le_of_ble_eq_true rfl) d_T_makeReady_2 (fun H locs hP _ hS => ?_)
  rw [cp_k (k := 4) hj0 (by decide) (by decide)] at hP
  generalize hw2 : wr st (5 + 2 * j0) 4 1 = sw1 at hP he
  refine W.eq (g2 := F0 m 5 ls []) rfl ?_
  rw [f_T_makeReady_S5] at he
  refine lv_aload_n hx hb d_T_makeReady_5 rfl (lv_at hl 0 rfl) ?_
  refine lv_aload_n hx hb d_T_makeReady_6 rfl (lv_at hl 0 rfl) ?_
  refine va_get (D := D) (ci := 1) (v := .int (sw1 (5 + 2 * j0) 0)) (C := R_T) (T := F_T) (N := 10) hx hb hts in_T hown hK hP (5 + 2 * j0) (cw_k hj0) rfl 0 (by decide) (hts _ k_67) (fun _ h9 => h9) rfl d_T_makeReady_7 ?_
  refine va_put (D := D) (ci := 1) (v := .int (sw1 (5 + 2 * j0) 0)) (ty := .int) (C := R_T) (T := F_T) (N := 10) hx hb hts in_T ft_T ft_T_ok n_T hown hK hP (cw_D hI) hS (5 + 2 * j0) (cw_k hj0) rfl 5 (by decide) (hts _ k_77) (fun _ h9 => h9) rfl (by decide +kernel) rfl rfl (Nat.le_of_ble_eq_true rfl) d_T_makeReady_10 (fun H locs hP _ hS => ?_)
  rw [cp_k (k := 5) hj0 (by decide) (by decide)] at hP
  generalize hw4 : wr sw1 (5 + 2 * j0) 5 (sw1 (5 + 2 * j0) 0) = sw3 at hP he
  refine W.eq (g2 := F0 m 13 ls []) rfl ?_
  rw [f_T_makeReady_S13] at he
  refine lv_aload_n hx hb d_T_makeReady_13 rfl (lv_at hl 0 rfl) ?_
  refine lv_iload_n hx hb d_T_makeReady_14 rfl (lv_at hl 1 rfl) ?_
  refine va_put (D := D) (ci := 1) (v := .int p1) (ty := .int) (C := R_T) (T := F_T) (N := 10) hx hb hts in_T ft_T ft_T_ok n_T hown hK hP (cw_D hI) hS (5 + 2 * j0) (cw_k hj0) rfl 6 (by decide) (hts _ k_79) (fun _ h9 => h9) rfl (by decide +kernel) rfl rfl (Nat.le_of_ble_eq_true rfl) d_T_makeReady_15 (fun H locs hP _ hS => ?_)
  rw [cp_k (k := 6) hj0 (by decide) (by decide)] at hP
  generalize hw6 : wr sw3 (5 + 2 * j0) 6 p1 = sw5 at hP he
  refine W.eq (g2 := F0 m 18 ls []) rfl ?_
  rw [f_T_makeReady_S18] at he
  refine lv_aload_n hx hb d_T_makeReady_18 rfl (lv_at hl 0 rfl) ?_
  refine lv_iconst (v := 0) hx hb d_T_makeReady_19 (by decide) ?_
  refine va_put (D := D) (ci := 1) (v := .int 0) (ty := .int) (C := R_T) (T := F_T) (N := 10) hx hb hts in_T ft_T ft_T_ok n_T hown hK hP (cw_D hI) hS (5 + 2 * j0) (cw_k hj0) rfl 8 (by decide) (hts _ k_82) (fun _ h9 => h9) rfl (by decide +kernel) rfl rfl (Nat.le_of_ble_eq_true rfl) d_T_makeReady_20 (fun H locs hP _ hS => ?_)
  rw [cp_k (k := 8) hj0 (by decide) (by decide)] at hP
  generalize hw8 : wr sw5 (5 + 2 * j0) 8 0 = sw7 at hP he
  refine W.eq (g2 := F0 m 23 ls []) rfl ?_
  rw [f_T_makeReady_S23] at he
  refine lv_aload_n hx hb d_T_makeReady_23 rfl (lv_at hl 0 rfl) ?_
  refine lv_iconst (v := 0) hx hb d_T_makeReady_24 (by decide) ?_
  refine va_put (D := D) (ci := 1) (v := .int 0) (ty := .int) (C := R_T) (T := F_T) (N := 10) hx hb hts in_T ft_T ft_T_ok n_T hown hK hP (cw_D hI) hS (5 + 2 * j0) (cw_k hj0) rfl 9 (by decide) (hts _ k_84) (fun _ h9 => h9) rfl (by decide +kernel) rfl rfl (Nat.le_of_ble_eq_true rfl) d_T_makeReady_25 (fun H locs hP _ hS => ?_)
  rw [cp_k (k := 9) hj0 (by decide) (by decide)] at hP
  generalize hw10 : wr sw7 (5 + 2 * j0) 9 0 = sw9 at hP he
  refine W.eq (g2 := F0 m 28 ls []) rfl ?_
  exact W.vret hx hb hr (fun t ht _ => ⟨⟨(), rfl, trivial, (by rw [he]; show va_P _ _ _ t.heap; rw [ht]; exact hP)⟩, hS.F ht⟩) hS.2.2 d_T_makeReady_28
set_option maxHeartbeats 4000000 in
set_option maxRecDepth 100000 in
theorem c_T_goesBefore (l : Launch) (D : va_G) (cI cT cH : ClassId) (ad : Nat → Nat) (st : St) (j0 : Nat) (j1 : Nat) (hj0 : j0 < 8) (hj1 : j1 < 8) : Met l y_T_goesBefore w_T_goesBefore { frames := 0, cells := 0, slots := 0, locals := 0 } (va_Pc [.ref (ad (5 + 2 * j0)), .ref (ad (5 + 2 * j1))] (gW D cI cT cH (cw cI cT cH ad st))) (QcRead (f_T_goesBefore st j0 j1)) 0 0 (fun _ => False) := by
  refine Met.ofW (cc := b_T_goesBefore) (maxL := 2) (ret := (some .boolean)) (by decide +kernel) rfl ?_
  intro p e s m args below meth c s₁ B hml hv
  obtain ⟨rfl, hP, hK, hN⟩ := hv
  have hx := B.exec
  have hb := B.bytes
  have hr := B.returns
  have hlocks := B.notSynchronized
  have hts0 := atoms_spec (ws := w_T_goesBefore) B.pre
  have hts : ∀ w ∈ TT, w.before [.ref (ad (5 + 2 * j0)), .ref (ad (5 + 2 * j1))].toArray s = true := fun w h => hts0 w (List.mem_cons_of_mem _ h)
  have hown : s.vm.findClass R_T = some m.cls := findClass_of_methodNamed B.named
  have hl := lv_entry ([.ref (ad (5 + 2 * j0)), .ref (ad (5 + 2 * j1))]) (n := 2) (Nat.le_of_ble_eq_true rfl)
  rw [lg_entry_eq]
  generalize (lg_sl ([.ref (ad (5 + 2 * j0)), .ref (ad (5 + 2 * j1))]) ++ List.replicate (2 - (lg_sl ([.ref (ad (5 + 2 * j0)), .ref (ad (5 + 2 * j1))])).length) Slot.unset).toArray = ls at hl ⊢
  have hl : lv_has ls 2 [(0, .ref (ad (5 + 2 * j0))), (1, .ref (ad (5 + 2 * j1)))] := hl
  have he := f_T_goesBefore.eq_1 st j0 j1
  refine lv_aload_n hx hb d_T_goesBefore_0 rfl (lv_at hl 0 rfl) ?_
  refine va_get (D := D) (ci := 1) (v := .int (st (5 + 2 * j0) 5)) (C := R_T) (T := F_T) (N := 10) hx hb hts in_T hown hK hP (5 + 2 * j0) (cw_k hj0) rfl 5 (by decide) (hts _ k_77) (fun _ h9 => h9) rfl d_T_goesBefore_1 ?_
  refine lv_aload_n hx hb d_T_goesBefore_4 rfl (lv_at hl 1 rfl) ?_
  refine va_get (D := D) (ci := 1) (v := .int (st (5 + 2 * j1) 5)) (C := R_T) (T := F_T) (N := 10) hx hb hts in_T hown hK hP (5 + 2 * j1) (cw_k hj1) rfl 5 (by decide) (hts _ k_77) (fun _ h9 => h9) rfl d_T_goesBefore_5 ?_
  refine lv_icmp_gt (tgt := 33) hx hb d_T_goesBefore_8 (by decide) (fun hc1 => ?_) (fun hc1 => ?_)
  · have he := he.trans (if_pos hc1)
    refine lv_iconst (v := 1) hx hb d_T_goesBefore_33 (by decide) ?_
    refine lv_goto (tgt := 38) hx hb d_T_goesBefore_34 (by decide) ?_
    exact W.zret (v := 1) hx hb hr (by decide) (fun t ht _ => ⟨by rw [he], ht⟩) (fun _ h => nomatch h) d_T_goesBefore_38
  · have he := he.trans (if_neg hc1)
    refine lv_aload_n hx hb d_T_goesBefore_11 rfl (lv_at hl 0 rfl) ?_
    refine va_get (D := D) (ci := 1) (v := .int (st (5 + 2 * j0) 5)) (C := R_T) (T := F_T) (N := 10) hx hb hts in_T hown hK hP (5 + 2 * j0) (cw_k hj0) rfl 5 (by decide) (hts _ k_77) (fun _ h9 => h9) rfl d_T_goesBefore_12 ?_
    refine lv_aload_n hx hb d_T_goesBefore_15 rfl (lv_at hl 1 rfl) ?_
    refine va_get (D := D) (ci := 1) (v := .int (st (5 + 2 * j1) 5)) (C := R_T) (T := F_T) (N := 10) hx hb hts in_T hown hK hP (5 + 2 * j1) (cw_k hj1) rfl 5 (by decide) (hts _ k_77) (fun _ h9 => h9) rfl d_T_goesBefore_16 ?_
    refine lv_icmp_ne (tgt := 37) hx hb d_T_goesBefore_19 (by decide) (fun hc2 => ?_) (fun hc2 => ?_)
    · have he := he.trans (if_neg hc2)
      refine lv_iconst (v := 0) hx hb d_T_goesBefore_37 (by decide) ?_
      exact W.zret (v := 0) hx hb hr (by decide) (fun t ht _ => ⟨by rw [he], ht⟩) (fun _ h => nomatch h) d_T_goesBefore_38
    · have he := he.trans (if_pos hc2)
      refine lv_aload_n hx hb d_T_goesBefore_22 rfl (lv_at hl 0 rfl) ?_
      refine va_get (D := D) (ci := 1) (v := .int (st (5 + 2 * j0) 6)) (C := R_T) (T := F_T) (N := 10) hx hb hts in_T hown hK hP (5 + 2 * j0) (cw_k hj0) rfl 6 (by decide) (hts _ k_79) (fun _ h9 => h9) rfl d_T_goesBefore_23 ?_
      refine lv_aload_n hx hb d_T_goesBefore_26 rfl (lv_at hl 1 rfl) ?_
      refine va_get (D := D) (ci := 1) (v := .int (st (5 + 2 * j1) 6)) (C := R_T) (T := F_T) (N := 10) hx hb hts in_T hown hK hP (5 + 2 * j1) (cw_k hj1) rfl 6 (by decide) (hts _ k_79) (fun _ h9 => h9) rfl d_T_goesBefore_27 ?_
      refine lv_icmp_ge (tgt := 37) hx hb d_T_goesBefore_30 (by decide) (fun hc3 => ?_) (fun hc3 => ?_)
      · have he := he.trans (if_pos hc3)
        refine lv_iconst (v := 0) hx hb d_T_goesBefore_37 (by decide) ?_
        exact W.zret (v := 0) hx hb hr (by decide) (fun t ht _ => ⟨by rw [he], ht⟩) (fun _ h => nomatch h) d_T_goesBefore_38
      · have he := he.trans (if_neg hc3)
        refine lv_iconst (v := 1) hx hb d_T_goesBefore_33 (by decide) ?_
        refine lv_goto (tgt := 38) hx hb d_T_goesBefore_34 (by decide) ?_
        exact W.zret (v := 1) hx hb hr (by decide) (fun t ht _ => ⟨by rw [he], ht⟩) (fun _ h => nomatch h) d_T_goesBefore_38
set_option maxHeartbeats 4000000 in
set_option maxRecDepth 100000 in
theorem c_T_demandIn (l : Launch) (D : va_G) (cI cT cH : ClassId) (ad : Nat → Nat) (st : St) (j0 : Nat) (p1 : Int32) (hj0 : j0 < 8) : Met l y_T_demandIn w_T_demandIn { frames := 1, cells := 0, slots := 0, locals := 20 } (va_Pc [.ref (ad (5 + 2 * j0)), .int p1] (gW D cI cT cH (cw cI cT cH ad st))) (QcRead (f_T_demandIn st j0 p1)) 0 0 (fun _ => False) := by
  refine Met.ofW (cc := b_T_demandIn) (maxL := 2) (ret := (some .int)) (by decide +kernel) rfl ?_
  intro p e s m args below meth c s₁ B hml hv
  obtain ⟨rfl, hP, hK, hN⟩ := hv
  have hx := B.exec
  have hb := B.bytes
  have hr := B.returns
  have hlocks := B.notSynchronized
  have hts0 := atoms_spec (ws := w_T_demandIn) B.pre
  have hts : ∀ w ∈ TT, w.before [.ref (ad (5 + 2 * j0)), .int p1].toArray s = true := fun w h => hts0 w (List.mem_cons_of_mem _ h)
  have hown : s.vm.findClass R_T = some m.cls := findClass_of_methodNamed B.named
  have hl := lv_entry ([.ref (ad (5 + 2 * j0)), .int p1]) (n := 2) (Nat.le_of_ble_eq_true rfl)
  rw [lg_entry_eq]
  generalize (lg_sl ([.ref (ad (5 + 2 * j0)), .int p1]) ++ List.replicate (2 - (lg_sl ([.ref (ad (5 + 2 * j0)), .int p1])).length) Slot.unset).toArray = ls at hl ⊢
  have hl : lv_has ls 2 [(0, .ref (ad (5 + 2 * j0))), (1, .int p1)] := hl
  have he := f_T_demandIn.eq_1 st j0 p1
  refine lv_aload_n hx hb d_T_demandIn_0 rfl (lv_at hl 0 rfl) ?_
  refine rdV (As := []) (rest := []) (na := 0) (c_T_isDeclared l D cI cT cH ad st j0 hj0) ⟨hx, hb, hml, hown, hts⟩ k_224 k_167 k_168 k_26 k_169 (by decide +kernel) (by decide) (by decide) hP hK hN (q0 := (5 + 2 * j0)) (ci := 1) (cw_k hj0) rfl rfl hl.1 rfl (Nat.le_of_ble_eq_true rfl) d_T_demandIn_1 ?_
  refine lv_if_eq (tgt := 28) hx hb d_T_demandIn_4 (by decide) (fun hc1 => ?_) (fun hc1 => ?_)
  · have he := he.trans (if_pos hc1)
    refine lv_iconst (v := 0) hx hb d_T_demandIn_28 (by decide) ?_
    exact W.iret (v := 0) hx hb hr (fun t ht _ => ⟨by rw [he], ht⟩) (fun _ h => nomatch h) d_T_demandIn_29
  · have he := he.trans (if_neg hc1)
    refine lv_aload_n hx hb d_T_demandIn_7 rfl (lv_at hl 0 rfl) ?_
    refine va_get (D := D) (ci := 1) (v := .int (st (5 + 2 * j0) 1)) (C := R_T) (T := F_T) (N := 10) hx hb hts in_T hown hK hP (5 + 2 * j0) (cw_k hj0) rfl 1 (by decide) (hts _ k_69) (fun _ h9 => h9) rfl d_T_demandIn_8 ?_
    refine lv_iload_n hx hb d_T_demandIn_11 rfl (lv_at hl 1 rfl) ?_
    refine lv_aload_n hx hb d_T_demandIn_12 rfl (lv_at hl 0 rfl) ?_
    refine va_get (D := D) (ci := 1) (v := .int (st (5 + 2 * j0) 2)) (C := R_T) (T := F_T) (N := 10) hx hb hts in_T hown hK hP (5 + 2 * j0) (cw_k hj0) rfl 2 (by decide) (hts _ k_71) (fun _ h9 => h9) rfl d_T_demandIn_13 ?_
    refine lv_iadd hx hb d_T_demandIn_16 ?_
    refine lv_iconst (v := 1) hx hb d_T_demandIn_17 (by decide) ?_
    refine lv_isub hx hb d_T_demandIn_18 ?_
    refine lv_aload_n hx hb d_T_demandIn_19 rfl (lv_at hl 0 rfl) ?_
    refine va_get (D := D) (ci := 1) (v := .int (st (5 + 2 * j0) 2)) (C := R_T) (T := F_T) (N := 10) hx hb hts in_T hown hK hP (5 + 2 * j0) (cw_k hj0) rfl 2 (by decide) (hts _ k_71) (fun _ h9 => h9) rfl d_T_demandIn_20 ?_
    refine lv_idiv hx hb d_T_demandIn_23 (by first | with_reducible assumption | exact vi_ne0 (by with_reducible assumption) | exact hy1 _ (by omega) (i32_pos (by with_reducible assumption)) | decide) ?_
    refine lv_imul hx hb d_T_demandIn_24 ?_
    refine lv_goto (tgt := 29) hx hb d_T_demandIn_25 (by decide) ?_
    exact W.iret (v := ((st (5 + 2 * j0) 1) * (((p1 + (st (5 + 2 * j0) 2)) - 1) / (st (5 + 2 * j0) 2)))) hx hb hr (fun t ht _ => ⟨by rw [he], ht⟩) (fun _ h => nomatch h) d_T_demandIn_29
set_option maxHeartbeats 4000000 in
set_option maxRecDepth 100000 in
theorem c_N_write (l : Launch) (D : va_G) (cI cT cH : ClassId) (ad : Nat → Nat) (st : St) (p1 : Int32) (p2 : Int32) (p3 : Int32) (p4 : Int32) (hI : ∀ i j, i < 27 → j < 27 → ad i = ad j → i = j) : Met l y_N_write w_N_write { frames := 1, cells := 0, slots := 0, locals := 22 } (va_Pc [.ref (ad 3), .int p1, .int p2, .int p3, .int p4] (gW D cI cT cH (cw cI cT cH ad st))) (qV D (cw cI cT cH ad (f_N_write st p1 p2 p3 p4)) (inA ad 27)) 0 0 (inA ad 27) := by
  refine Met.ofW (cc := b_N_write) (maxL := 5) (ret := none) (by decide +kernel) rfl ?_
  intro p e s m args below meth c s₁ B hml hv
  obtain ⟨rfl, hP, hK, hN⟩ := hv
  have hx := B.exec
  have hb := B.bytes
  have hr := B.returns
  have hlocks := B.notSynchronized
  have hts0 := atoms_spec (ws := w_N_write) B.pre
  have hts : ∀ w ∈ TT, w.before [.ref (ad 3), .int p1, .int p2, .int p3, .int p4].toArray s = true := fun w h => hts0 w (List.mem_cons_of_mem _ h)
  have hown : s.vm.findClass R_N = some m.cls := findClass_of_methodNamed B.named
  have hS : va_S (inA ad 27) s.heap s.heap [] := va_S.rf
  have hl := lv_entry ([.ref (ad 3), .int p1, .int p2, .int p3, .int p4]) (n := 5) (Nat.le_of_ble_eq_true rfl)
  rw [lg_entry_eq]
  generalize (lg_sl ([.ref (ad 3), .int p1, .int p2, .int p3, .int p4]) ++ List.replicate (5 - (lg_sl ([.ref (ad 3), .int p1, .int p2, .int p3, .int p4])).length) Slot.unset).toArray = ls at hl ⊢
  have hl : lv_has ls 5 [(0, .ref (ad 3)), (1, .int p1), (2, .int p2), (3, .int p3), (4, .int p4)] := hl
  have he := f_N_write.eq_1 st p1 p2 p3 p4
  refine lv_aload_n hx hb d_N_write_0 rfl (lv_at hl 0 rfl) ?_
  refine va_get (D := D) (ci := 3) (v := .ref (ad 4)) (C := R_N) (T := F_N) (N := 2) hx hb hts in_N hown hK hP 3 cw_3 rfl 0 (by decide) (hts _ k_53) (fun _ h9 => h9) rfl d_N_write_1 ?_
  refine lv_aload_n hx hb d_N_write_4 rfl (lv_at hl 0 rfl) ?_
  refine va_get (D := D) (ci := 3) (v := .int (st 3 1)) (C := R_N) (T := F_N) (N := 2) hx hb hts in_N hown hK hP 3 cw_3 rfl 1 (by decide) (hts _ k_54) (fun _ h9 => h9) rfl d_N_write_5 ?_
  refine lv_bipush (v := 40) hx hb d_N_write_8 (by decide) ?_
  refine rdS (As := [.int (st 3 1), .int 40]) (rest := [.ref (ad 4)]) (na := 2) (c_J_floorMod l (st 3 1) 40 (by decide)) ⟨hx, hb, hml, hown, hts⟩ k_237 k_238 k_34 k_239 (by decide +kernel) (by decide) (by decide) rfl hl.1 rfl (Nat.le_of_ble_eq_true rfl) d_N_write_10 ?_
  refine lv_sipush (v := 4096) hx hb d_N_write_13 (by decide) ?_
  refine lv_iload hx hb d_N_write_16 (lv_at hl 4 rfl) ?_
  refine lv_ldc hx hb hown (hts _ k_381) d_N_write_18 ?_
  refine rdS (As := [.int p4, .int 65536]) (rest := [.int 4096, .int (f_J_floorMod (st 3 1) 40), .ref (ad 4)]) (na := 2) (c_J_floorMod l p4 65536 (by decide)) ⟨hx, hb, hml, hown, hts⟩ k_237 k_238 k_34 k_239 (by decide +kernel) (by decide) (by decide) rfl hl.1 rfl (Nat.le_of_ble_eq_true rfl) d_N_write_20 ?_
  refine lv_imul hx hb d_N_write_23 ?_
  refine lv_sipush (v := 256) hx hb d_N_write_24 (by decide) ?_
  refine lv_iload_n hx hb d_N_write_27 rfl (lv_at hl 3 rfl) ?_
  refine lv_imul hx hb d_N_write_28 ?_
  refine lv_iadd hx hb d_N_write_29 ?_
  refine lv_bipush (v := 16) hx hb d_N_write_30 (by decide) ?_
  refine lv_iload_n hx hb d_N_write_32 rfl (lv_at hl 2 rfl) ?_
  refine lv_imul hx hb d_N_write_33 ?_
  refine lv_iadd hx hb d_N_write_34 ?_
  refine lv_iload_n hx hb d_N_write_35 rfl (lv_at hl 1 rfl) ?_
  refine lv_iadd hx hb d_N_write_36 ?_
  have hi1 : vp_in (f_J_floorMod (st 3 1) 40) 40 := (vi_fmod40 _)
  refine va_iast hx hb hK hP (cw_D hI) hS 4 0 cw_4 rfl hi1 d_N_write_37 (fun H locs hP _ hS => ?_)
  rw [cp_4] at hP
  generalize hw3 : wr st 4 (f_J_floorMod (st 3 1) 40).toNatClampNeg ((((4096 * (f_J_floorMod p4 65536)) + (256 * p3)) + (16 * p2)) + p1) = sw2 at hP he
  refine W.eq (g2 := F0 m 38 ls []) rfl ?_
  rw [f_N_write_S38] at he
  refine lv_aload_n hx hb d_N_write_38 rfl (lv_at hl 0 rfl) ?_
  refine lv_dup hx hb d_N_write_39 rfl ?_
  refine va_get (D := D) (ci := 3) (v := .int (sw2 3 1)) (C := R_N) (T := F_N) (N := 2) hx hb hts in_N hown hK hP 3 cw_3 rfl 1 (by decide) (hts _ k_54) (fun _ h9 => h9) rfl d_N_write_40 ?_
  refine lv_iconst (v := 1) hx hb d_N_write_43 (by decide) ?_
  refine lv_iadd hx hb d_N_write_44 ?_
  refine va_put (D := D) (ci := 3) (v := .int ((sw2 3 1) + 1)) (ty := .int) (C := R_N) (T := F_N) (N := 2) hx hb hts in_N ft_N ft_N_ok n_N hown hK hP (cw_D hI) hS 3 cw_3 rfl 1 (by decide) (hts _ k_54) (fun _ h9 => h9) rfl (by decide +kernel) rfl rfl (Nat.le_of_ble_eq_true rfl) d_N_write_45 (fun H locs hP _ hS => ?_)
  rw [cp_3] at hP
  generalize hw5 : wr sw2 3 1 ((sw2 3 1) + 1) = sw4 at hP he
  refine W.eq (g2 := F0 m 48 ls []) rfl ?_
  exact W.vret hx hb hr (fun t ht _ => ⟨⟨(), rfl, trivial, (by rw [he]; show va_P _ _ _ t.heap; rw [ht]; exact hP)⟩, hS.F ht⟩) hS.2.2 d_N_write_48
set_option maxHeartbeats 4000000 in
set_option maxRecDepth 100000 in
theorem c_N_fromLatest (l : Launch) (D : va_G) (cI cT cH : ClassId) (ad : Nat → Nat) (st : St) (p1 : Int32) : Met l y_N_fromLatest w_N_fromLatest { frames := 1, cells := 0, slots := 0, locals := 22 } (va_Pc [.ref (ad 3), .int p1] (gW D cI cT cH (cw cI cT cH ad st))) (QcRead (f_N_fromLatest st p1)) 0 0 (fun _ => False) := by
  refine Met.ofW (cc := b_N_fromLatest) (maxL := 2) (ret := (some .int)) (by decide +kernel) rfl ?_
  intro p e s m args below meth c s₁ B hml hv
  obtain ⟨rfl, hP, hK, hN⟩ := hv
  have hx := B.exec
  have hb := B.bytes
  have hr := B.returns
  have hlocks := B.notSynchronized
  have hts0 := atoms_spec (ws := w_N_fromLatest) B.pre
  have hts : ∀ w ∈ TT, w.before [.ref (ad 3), .int p1].toArray s = true := fun w h => hts0 w (List.mem_cons_of_mem _ h)
  have hown : s.vm.findClass R_N = some m.cls := findClass_of_methodNamed B.named
  have hl := lv_entry ([.ref (ad 3), .int p1]) (n := 2) (Nat.le_of_ble_eq_true rfl)
  rw [lg_entry_eq]
  generalize (lg_sl ([.ref (ad 3), .int p1]) ++ List.replicate (2 - (lg_sl ([.ref (ad 3), .int p1])).length) Slot.unset).toArray = ls at hl ⊢
  have hl : lv_has ls 2 [(0, .ref (ad 3)), (1, .int p1)] := hl
  have he := f_N_fromLatest.eq_1 st p1
  refine lv_iload_n hx hb d_N_fromLatest_0 rfl (lv_at hl 1 rfl) ?_
  refine lv_if_lt (tgt := 18) hx hb d_N_fromLatest_1 (by decide) (fun hc1 => ?_) (fun hc1 => ?_)
  · have he := he.trans (if_pos hc1)
    refine lv_iconst (v := (-1)) hx hb d_N_fromLatest_18 (by decide) ?_
    exact W.iret (v := (-1)) hx hb hr (fun t ht _ => ⟨by rw [he], ht⟩) (fun _ h => nomatch h) d_N_fromLatest_19
  · have he := he.trans (if_neg hc1)
    refine lv_iload_n hx hb d_N_fromLatest_4 rfl (lv_at hl 1 rfl) ?_
    refine lv_bipush (v := 40) hx hb d_N_fromLatest_5 (by decide) ?_
    refine lv_icmp_ge (tgt := 18) hx hb d_N_fromLatest_7 (by decide) (fun hc2 => ?_) (fun hc2 => ?_)
    · have he := he.trans (if_pos hc2)
      refine lv_iconst (v := (-1)) hx hb d_N_fromLatest_18 (by decide) ?_
      exact W.iret (v := (-1)) hx hb hr (fun t ht _ => ⟨by rw [he], ht⟩) (fun _ h => nomatch h) d_N_fromLatest_19
    · have he := he.trans (if_neg hc2)
      refine lv_iload_n hx hb d_N_fromLatest_10 rfl (lv_at hl 1 rfl) ?_
      refine lv_aload_n hx hb d_N_fromLatest_11 rfl (lv_at hl 0 rfl) ?_
      refine va_get (D := D) (ci := 3) (v := .int (st 3 1)) (C := R_N) (T := F_N) (N := 2) hx hb hts in_N hown hK hP 3 cw_3 rfl 1 (by decide) (hts _ k_54) (fun _ h9 => h9) rfl d_N_fromLatest_12 ?_
      refine lv_icmp_lt (tgt := 20) hx hb d_N_fromLatest_15 (by decide) (fun hc3 => ?_) (fun hc3 => ?_)
      · have he := he.trans (if_pos hc3)
        refine lv_aload_n hx hb d_N_fromLatest_20 rfl (lv_at hl 0 rfl) ?_
        refine va_get (D := D) (ci := 3) (v := .ref (ad 4)) (C := R_N) (T := F_N) (N := 2) hx hb hts in_N hown hK hP 3 cw_3 rfl 0 (by decide) (hts _ k_53) (fun _ h9 => h9) rfl d_N_fromLatest_21 ?_
        refine lv_aload_n hx hb d_N_fromLatest_24 rfl (lv_at hl 0 rfl) ?_
        refine va_get (D := D) (ci := 3) (v := .int (st 3 1)) (C := R_N) (T := F_N) (N := 2) hx hb hts in_N hown hK hP 3 cw_3 rfl 1 (by decide) (hts _ k_54) (fun _ h9 => h9) rfl d_N_fromLatest_25 ?_
        refine lv_iconst (v := 1) hx hb d_N_fromLatest_28 (by decide) ?_
        refine lv_isub hx hb d_N_fromLatest_29 ?_
        refine lv_iload_n hx hb d_N_fromLatest_30 rfl (lv_at hl 1 rfl) ?_
        refine lv_isub hx hb d_N_fromLatest_31 ?_
        refine lv_bipush (v := 40) hx hb d_N_fromLatest_32 (by decide) ?_
        refine rdS (As := [.int (((st 3 1) - 1) - p1), .int 40]) (rest := [.ref (ad 4)]) (na := 2) (c_J_floorMod l (((st 3 1) - 1) - p1) 40 (by decide)) ⟨hx, hb, hml, hown, hts⟩ k_237 k_238 k_34 k_239 (by decide +kernel) (by decide) (by decide) rfl hl.1 rfl (Nat.le_of_ble_eq_true rfl) d_N_fromLatest_34 ?_
        have hi4 : vp_in (f_J_floorMod (((st 3 1) - 1) - p1) 40) 40 := (vi_fmod40 _)
        refine va_iald hx hb hK hP 4 0 cw_4 rfl hi4 d_N_fromLatest_37 ?_
        refine W.eq (g2 := F0 m 38 ls [.int (st 4 (f_J_floorMod (((st 3 1) - 1) - p1) 40).toNatClampNeg)]) rfl ?_
        exact W.iret (v := (st 4 (f_J_floorMod (((st 3 1) - 1) - p1) 40).toNatClampNeg)) hx hb hr (fun t ht _ => ⟨by rw [he], ht⟩) (fun _ h => nomatch h) d_N_fromLatest_38
      · have he := he.trans (if_neg hc3)
        refine lv_iconst (v := (-1)) hx hb d_N_fromLatest_18 (by decide) ?_
        exact W.iret (v := (-1)) hx hb hr (fun t ht _ => ⟨by rw [he], ht⟩) (fun _ h => nomatch h) d_N_fromLatest_19
