set_option maxHeartbeats 4000000 in
set_option maxRecDepth 100000 in
theorem c_J_floorMod (l : Launch) (p0 : Int32) (p1 : Int32) (hy0 : ¬ p1 = 0) : Met l y_J_floorMod w_J_floorMod { frames := 0, cells := 0, slots := 0, locals := 0 } (va_Pc [.int p0, .int p1] (fun _ => True)) (QcRead (f_J_floorMod p0 p1)) 0 0 (fun _ => False) := by
  refine va_MetF (cc := b_J_floorMod) (maxL := 3) (ret := (some .int)) (by decide +kernel) rfl ?_
  intro p e s m args below meth c s₁ B hml hv
  obtain ⟨rfl, -⟩ := hv
  have hx := B.exec
  have hb := B.bytes
  have hr := B.returns
  have hlocks := B.notSynchronized
  have hts0 := atoms_spec (ws := w_J_floorMod) B.pre
  have hts : ∀ w ∈ TT, w.before [.int p0, .int p1].toArray s = true := fun w h => hts0 w (List.mem_cons_of_mem _ h)
  have hown : s.vm.findClass R_J = some m.cls := findClass_of_methodNamed B.named
  have hl := lv_entry ([.int p0, .int p1]) (n := 3) (Nat.le_of_ble_eq_true rfl)
  rw [lg_entry_eq]
  generalize (lg_sl ([.int p0, .int p1]) ++ List.replicate (3 - (lg_sl ([.int p0, .int p1])).length) Slot.unset).toArray = ls at hl ⊢
  have hl : lv_has ls 3 [(0, .int p0), (1, .int p1)] := hl
  have he := f_J_floorMod.eq_1 p0 p1
  refine lv_iload_n hx hb d_J_floorMod_0 rfl (lv_at hl 0 rfl) ?_
  refine lv_iload_n hx hb d_J_floorMod_1 rfl (lv_at hl 1 rfl) ?_
  refine lv_irem hx hb d_J_floorMod_2 (by first | decide | assumption | exact vi_ne0 (by assumption) | exact hy1 _ (by omega) (i32_pos (by assumption))) ?_
  refine W.eq (g2 := F0 m 3 ls [.int (irem p0 p1)]) rfl ?_
  refine lv_istore_n hx hb d_J_floorMod_3 rfl hl (by decide) rfl (fun ls hl => ?_)
  have hl : lv_has ls 3 [(2, .int (irem p0 p1)), (0, .int p0), (1, .int p1)] := hl
  refine lv_iload_n hx hb d_J_floorMod_4 rfl (lv_at hl 1 rfl) ?_
  refine lv_iload_n hx hb d_J_floorMod_5 rfl (lv_at hl 2 rfl) ?_
  refine lv_ixor hx hb d_J_floorMod_6 ?_
  refine lv_if_ge (tgt := 18) hx hb d_J_floorMod_7 (by decide) (fun hc1 => ?_) (fun hc1 => ?_)
  · have he := he.trans (if_pos hc1)
    refine lv_iload_n hx hb d_J_floorMod_18 rfl (lv_at hl 0 rfl) ?_
    exact W.iret (v := (irem p0 p1)) hx hb hr (fun t ht _ => ⟨by rw [he], ht⟩) (fun _ h => nomatch h) d_J_floorMod_19
  · have he := he.trans (if_neg hc1)
    refine lv_iload_n hx hb d_J_floorMod_10 rfl (lv_at hl 0 rfl) ?_
    refine lv_if_eq (tgt := 18) hx hb d_J_floorMod_11 (by decide) (fun hc2 => ?_) (fun hc2 => ?_)
    · have he := he.trans (if_pos hc2)
      refine lv_iload_n hx hb d_J_floorMod_18 rfl (lv_at hl 0 rfl) ?_
      exact W.iret (v := (irem p0 p1)) hx hb hr (fun t ht _ => ⟨by rw [he], ht⟩) (fun _ h => nomatch h) d_J_floorMod_19
    · have he := he.trans (if_neg hc2)
      refine lv_iload_n hx hb d_J_floorMod_14 rfl (lv_at hl 0 rfl) ?_
      refine lv_iload_n hx hb d_J_floorMod_15 rfl (lv_at hl 2 rfl) ?_
      refine lv_iadd hx hb d_J_floorMod_16 ?_
      exact W.iret (v := ((irem p0 p1) + p1)) hx hb hr (fun t ht _ => ⟨by rw [he], ht⟩) (fun _ h => nomatch h) d_J_floorMod_17
set_option maxHeartbeats 4000000 in
set_option maxRecDepth 100000 in
theorem c_C_isIn (l : Launch) (p0 : Int32) (p1 : Int32) (p2 : Int32) : Met l y_C_isIn w_C_isIn { frames := 0, cells := 0, slots := 0, locals := 0 } (va_Pc [.int p0, .int p1, .int p2] (fun _ => True)) (QcRead (f_C_isIn p0 p1 p2)) 0 0 (fun _ => False) := by
  refine Met.ofW (cc := b_C_isIn) (maxL := 3) (ret := (some .boolean)) (by decide +kernel) rfl ?_
  intro p e s m args below meth c s₁ B hml hv
  obtain ⟨rfl, -⟩ := hv
  have hx := B.exec
  have hb := B.bytes
  have hr := B.returns
  have hlocks := B.notSynchronized
  have hts0 := atoms_spec (ws := w_C_isIn) B.pre
  have hts : ∀ w ∈ TT, w.before [.int p0, .int p1, .int p2].toArray s = true := fun w h => hts0 w (List.mem_cons_of_mem _ h)
  have hown : s.vm.findClass R_C = some m.cls := findClass_of_methodNamed B.named
  have hl := lv_entry ([.int p0, .int p1, .int p2]) (n := 3) (Nat.le_of_ble_eq_true rfl)
  rw [lg_entry_eq]
  generalize (lg_sl ([.int p0, .int p1, .int p2]) ++ List.replicate (3 - (lg_sl ([.int p0, .int p1, .int p2])).length) Slot.unset).toArray = ls at hl ⊢
  have hl : lv_has ls 3 [(0, .int p0), (1, .int p1), (2, .int p2)] := hl
  have he := f_C_isIn.eq_1 p0 p1 p2
  refine lv_iload_n hx hb d_C_isIn_0 rfl (lv_at hl 0 rfl) ?_
  refine lv_iload_n hx hb d_C_isIn_1 rfl (lv_at hl 1 rfl) ?_
  refine lv_icmp_lt (tgt := 14) hx hb d_C_isIn_2 (by decide) (fun hc1 => ?_) (fun hc1 => ?_)
  · have he := he.trans (if_pos hc1)
    refine lv_iconst (v := 0) hx hb d_C_isIn_14 (by decide) ?_
    exact W.zret (v := 0) hx hb hr (by decide) (fun t ht _ => ⟨by rw [he], ht⟩) (fun _ h => nomatch h) d_C_isIn_15
  · have he := he.trans (if_neg hc1)
    refine lv_iload_n hx hb d_C_isIn_5 rfl (lv_at hl 0 rfl) ?_
    refine lv_iload_n hx hb d_C_isIn_6 rfl (lv_at hl 2 rfl) ?_
    refine lv_icmp_gt (tgt := 14) hx hb d_C_isIn_7 (by decide) (fun hc2 => ?_) (fun hc2 => ?_)
    · have he := he.trans (if_pos hc2)
      refine lv_iconst (v := 0) hx hb d_C_isIn_14 (by decide) ?_
      exact W.zret (v := 0) hx hb hr (by decide) (fun t ht _ => ⟨by rw [he], ht⟩) (fun _ h => nomatch h) d_C_isIn_15
    · have he := he.trans (if_neg hc2)
      refine lv_iconst (v := 1) hx hb d_C_isIn_10 (by decide) ?_
      refine lv_goto (tgt := 15) hx hb d_C_isIn_11 (by decide) ?_
      exact W.zret (v := 1) hx hb hr (by decide) (fun t ht _ => ⟨by rw [he], ht⟩) (fun _ h => nomatch h) d_C_isIn_15
set_option maxHeartbeats 4000000 in
set_option maxRecDepth 100000 in
theorem c_C_isThing (l : Launch) (p0 : Int32) : Met l y_C_isThing w_C_isThing { frames := 1, cells := 0, slots := 0, locals := 22 } (va_Pc [.int p0] (fun _ => True)) (QcRead (f_C_isThing p0)) 0 0 (fun _ => False) := by
  refine Met.ofW (cc := b_C_isThing) (maxL := 1) (ret := (some .boolean)) (by decide +kernel) rfl ?_
  intro p e s m args below meth c s₁ B hml hv
  obtain ⟨rfl, -⟩ := hv
  have hx := B.exec
  have hb := B.bytes
  have hr := B.returns
  have hlocks := B.notSynchronized
  have hts0 := atoms_spec (ws := w_C_isThing) B.pre
  have hts : ∀ w ∈ TT, w.before [.int p0].toArray s = true := fun w h => hts0 w (List.mem_cons_of_mem _ h)
  have hown : s.vm.findClass R_C = some m.cls := findClass_of_methodNamed B.named
  have hl := lv_entry ([.int p0]) (n := 1) (Nat.le_of_ble_eq_true rfl)
  rw [lg_entry_eq]
  generalize (lg_sl ([.int p0]) ++ List.replicate (1 - (lg_sl ([.int p0])).length) Slot.unset).toArray = ls at hl ⊢
  have hl : lv_has ls 1 [(0, .int p0)] := hl
  have he := f_C_isThing.eq_1 p0
  refine lv_iload_n hx hb d_C_isThing_0 rfl (lv_at hl 0 rfl) ?_
  refine lv_iconst (v := 0) hx hb d_C_isThing_1 (by decide) ?_
  refine lv_iconst (v := 5) hx hb d_C_isThing_2 (by decide) ?_
  refine rdS (As := [.int p0, .int 0, .int 5]) (rest := []) (na := 3) (c_C_isIn l p0 0 5 ) ⟨hx, hb, hml, hown, hts⟩ k_163 k_164 k_24 k_165 (by decide +kernel) (by decide) (by decide) rfl hl.1 rfl (by decide) d_C_isThing_3 ?_
  exact W.zret (v := (f_C_isIn p0 0 5)) hx hb hr (nb_isIn _ _ _) (fun t ht _ => ⟨by rw [he], ht⟩) (fun _ h => nomatch h) d_C_isThing_6
set_option maxHeartbeats 4000000 in
set_option maxRecDepth 100000 in
theorem c_T_isDeclared (l : Launch) (D : va_G) (cI cT cH : ClassId) (ad : Nat → Nat) (st : St) (j0 : Nat) (hj0 : j0 < 8) : Met l y_T_isDeclared w_T_isDeclared { frames := 0, cells := 0, slots := 0, locals := 0 } (va_Pc [.ref (ad (5 + 2 * j0))] (gW D cI cT cH (cw cI cT cH ad st))) (QcRead (f_T_isDeclared st j0)) 0 0 (fun _ => False) := by
  refine Met.ofW (cc := b_T_isDeclared) (maxL := 1) (ret := (some .boolean)) (by decide +kernel) rfl ?_
  intro p e s m args below meth c s₁ B hml hv
  obtain ⟨rfl, hP, hK, hN⟩ := hv
  have hx := B.exec
  have hb := B.bytes
  have hr := B.returns
  have hlocks := B.notSynchronized
  have hts0 := atoms_spec (ws := w_T_isDeclared) B.pre
  have hts : ∀ w ∈ TT, w.before [.ref (ad (5 + 2 * j0))].toArray s = true := fun w h => hts0 w (List.mem_cons_of_mem _ h)
  have hown : s.vm.findClass R_T = some m.cls := findClass_of_methodNamed B.named
  have hl := lv_entry ([.ref (ad (5 + 2 * j0))]) (n := 1) (Nat.le_of_ble_eq_true rfl)
  rw [lg_entry_eq]
  generalize (lg_sl ([.ref (ad (5 + 2 * j0))]) ++ List.replicate (1 - (lg_sl ([.ref (ad (5 + 2 * j0))])).length) Slot.unset).toArray = ls at hl ⊢
  have hl : lv_has ls 1 [(0, .ref (ad (5 + 2 * j0)))] := hl
  have he := f_T_isDeclared.eq_1 st j0
  refine lv_aload_n hx hb d_T_isDeclared_0 rfl (lv_at hl 0 rfl) ?_
  refine va_get (D := D) (ci := 1) (v := .int (st (5 + 2 * j0) 2)) (C := R_T) (T := F_T) (N := 10) hx hb hts in_T hown hK hP (5 + 2 * j0) (cw_k hj0) rfl 2 (by decide) (hts _ k_71) (fun _ h9 => h9) rfl d_T_isDeclared_1 ?_
  refine lv_if_le (tgt := 11) hx hb d_T_isDeclared_4 (by decide) (fun hc1 => ?_) (fun hc1 => ?_)
  · have he := he.trans (if_pos hc1)
    refine lv_iconst (v := 0) hx hb d_T_isDeclared_11 (by decide) ?_
    exact W.zret (v := 0) hx hb hr (by decide) (fun t ht _ => ⟨by rw [he], ht⟩) (fun _ h => nomatch h) d_T_isDeclared_12
  · have he := he.trans (if_neg hc1)
    refine lv_iconst (v := 1) hx hb d_T_isDeclared_7 (by decide) ?_
    refine lv_goto (tgt := 12) hx hb d_T_isDeclared_8 (by decide) ?_
    exact W.zret (v := 1) hx hb hr (by decide) (fun t ht _ => ⟨by rw [he], ht⟩) (fun _ h => nomatch h) d_T_isDeclared_12
