set_option maxHeartbeats 4000000 in
set_option maxRecDepth 100000 in
theorem c_C_isDeclared (l : Launch) (D : va_G) (cI cT cH : ClassId) (ad : Nat → Nat) (st : St) (p1 : Int32) : Met l y_C_isDeclared w_C_isDeclared { frames := 1, cells := 0, slots := 0, locals := 22 } (va_Pc [.ref (ad 0), .int p1] (gW D cI cT cH (cw cI cT cH ad st))) (QcRead (f_C_isDeclared st p1)) 0 0 (fun _ => False) := by
  refine Met.ofW (cc := b_C_isDeclared) (maxL := 2) (ret := (some .boolean)) (by decide +kernel) rfl ?_
  intro p e s m args below meth c s₁ B hml hv
  obtain ⟨rfl, hP, hK, hN⟩ := hv
  have hx := B.exec
  have hb := B.bytes
  have hr := B.returns
  have hlocks := B.notSynchronized
  have hts0 := atoms_spec (ws := w_C_isDeclared) B.pre
  have hts : ∀ w ∈ TT, w.before [.ref (ad 0), .int p1].toArray s = true := fun w h => hts0 w (List.mem_cons_of_mem _ h)
  have hown : s.vm.findClass R_C = some m.cls := findClass_of_methodNamed B.named
  have hl := lv_entry ([.ref (ad 0), .int p1]) (n := 2) (Nat.le_of_ble_eq_true rfl)
  rw [lg_entry_eq]
  generalize (lg_sl ([.ref (ad 0), .int p1]) ++ List.replicate (2 - (lg_sl ([.ref (ad 0), .int p1])).length) Slot.unset).toArray = ls at hl ⊢
  have hl : lv_has ls 2 [(0, .ref (ad 0)), (1, .int p1)] := hl
  have he := f_C_isDeclared.eq_1 st p1
  refine lv_iload_n hx hb d_C_isDeclared_0 rfl (lv_at hl 1 rfl) ?_
  refine lv_iconst (v := 0) hx hb d_C_isDeclared_1 (by decide) ?_
  refine lv_bipush (v := 7) hx hb d_C_isDeclared_2 (by decide) ?_
  refine rdS (As := [.int p1, .int 0, .int 7]) (rest := []) (na := 3) (c_C_isIn l p1 0 7 ) ⟨hx, hb, hml, hown, hts⟩ k_163 k_164 k_24 k_165 (by decide +kernel) (by decide) (by decide) rfl hl.1 rfl (Nat.le_of_ble_eq_true rfl) d_C_isDeclared_4 ?_
  refine lv_if_eq (tgt := 26) hx hb d_C_isDeclared_7 (by decide) (fun hc1 => ?_) (fun hc1 => ?_)
  · have he := he.trans (if_pos hc1)
    refine lv_iconst (v := 0) hx hb d_C_isDeclared_26 (by decide) ?_
    exact W.zret (v := 0) hx hb hr (by decide) (fun t ht _ => ⟨by rw [he], ht⟩) (fun _ h => nomatch h) d_C_isDeclared_27
  · have he := he.trans (if_neg hc1)
    refine lv_aload_n hx hb d_C_isDeclared_10 rfl (lv_at hl 0 rfl) ?_
    refine va_get (D := D) (ci := 0) (v := .ref (ad 1)) (C := R_C) (T := F_C) (N := 7) hx hb hts in_C hown hK hP 0 cw_0 rfl 0 (by decide) (hts _ k_129) (fun _ h9 => h9) rfl d_C_isDeclared_11 ?_
    refine lv_iload_n hx hb d_C_isDeclared_14 rfl (lv_at hl 1 rfl) ?_
    have hi2 : vp_in p1 8 := (by first | with_reducible assumption | exact vi_isIn7 (by with_reducible assumption) | exact vi_isThing (by with_reducible assumption) | exact vi_decl (by with_reducible assumption) | exact vi_ready (by with_reducible assumption) | exact vi_run (by with_reducible assumption) (by with_reducible assumption) | exact vi_run (by with_reducible assumption) (vi_runner _) | exact vi_mTask (by with_reducible assumption) | exact vi_mThing (by with_reducible assumption) | exact vi_mdecl (by with_reducible assumption) | exact vi_mready (by with_reducible assumption))
    refine va_aldq hx hb hK hP 1 1 cw_1 rfl hi2 d_C_isDeclared_15 ?_
    have hj3 : p1.toNatClampNeg < 8 := vi_lt hi2
    refine W.eq (g2 := F0 m 16 ls [.ref (ad (5 + 2 * p1.toNatClampNeg))]) rfl ?_
    refine rdV (As := []) (rest := []) (na := 0) (c_T_isDeclared l D cI cT cH ad st p1.toNatClampNeg hj3) ⟨hx, hb, hml, hown, hts⟩ k_166 k_167 k_168 k_26 k_169 (by decide +kernel) (by decide) (by decide) hP hK hN (q0 := (5 + 2 * p1.toNatClampNeg)) (ci := 1) (cw_k hj3) rfl rfl hl.1 rfl (Nat.le_of_ble_eq_true rfl) d_C_isDeclared_16 ?_
    refine lv_if_eq (tgt := 26) hx hb d_C_isDeclared_19 (by decide) (fun hc4 => ?_) (fun hc4 => ?_)
    · have he := he.trans (if_pos hc4)
      refine lv_iconst (v := 0) hx hb d_C_isDeclared_26 (by decide) ?_
      exact W.zret (v := 0) hx hb hr (by decide) (fun t ht _ => ⟨by rw [he], ht⟩) (fun _ h => nomatch h) d_C_isDeclared_27
    · have he := he.trans (if_neg hc4)
      refine lv_iconst (v := 1) hx hb d_C_isDeclared_22 (by decide) ?_
      refine lv_goto (tgt := 27) hx hb d_C_isDeclared_23 (by decide) ?_
      exact W.zret (v := 1) hx hb hr (by decide) (fun t ht _ => ⟨by rw [he], ht⟩) (fun _ h => nomatch h) d_C_isDeclared_27
set_option maxHeartbeats 4000000 in
set_option maxRecDepth 100000 in
theorem c_C_isReady (l : Launch) (D : va_G) (cI cT cH : ClassId) (ad : Nat → Nat) (st : St) (p1 : Int32) : Met l y_C_isReady w_C_isReady { frames := 1, cells := 0, slots := 0, locals := 22 } (va_Pc [.ref (ad 0), .int p1] (gW D cI cT cH (cw cI cT cH ad st))) (QcRead (f_C_isReady st p1)) 0 0 (fun _ => False) := by
  refine Met.ofW (cc := b_C_isReady) (maxL := 2) (ret := (some .boolean)) (by decide +kernel) rfl ?_
  intro p e s m args below meth c s₁ B hml hv
  obtain ⟨rfl, hP, hK, hN⟩ := hv
  have hx := B.exec
  have hb := B.bytes
  have hr := B.returns
  have hlocks := B.notSynchronized
  have hts0 := atoms_spec (ws := w_C_isReady) B.pre
  have hts : ∀ w ∈ TT, w.before [.ref (ad 0), .int p1].toArray s = true := fun w h => hts0 w (List.mem_cons_of_mem _ h)
  have hown : s.vm.findClass R_C = some m.cls := findClass_of_methodNamed B.named
  have hl := lv_entry ([.ref (ad 0), .int p1]) (n := 2) (Nat.le_of_ble_eq_true rfl)
  rw [lg_entry_eq]
  generalize (lg_sl ([.ref (ad 0), .int p1]) ++ List.replicate (2 - (lg_sl ([.ref (ad 0), .int p1])).length) Slot.unset).toArray = ls at hl ⊢
  have hl : lv_has ls 2 [(0, .ref (ad 0)), (1, .int p1)] := hl
  have he := f_C_isReady.eq_1 st p1
  refine lv_iload_n hx hb d_C_isReady_0 rfl (lv_at hl 1 rfl) ?_
  refine lv_iconst (v := 0) hx hb d_C_isReady_1 (by decide) ?_
  refine lv_bipush (v := 7) hx hb d_C_isReady_2 (by decide) ?_
  refine rdS (As := [.int p1, .int 0, .int 7]) (rest := []) (na := 3) (c_C_isIn l p1 0 7 ) ⟨hx, hb, hml, hown, hts⟩ k_163 k_164 k_24 k_165 (by decide +kernel) (by decide) (by decide) rfl hl.1 rfl (Nat.le_of_ble_eq_true rfl) d_C_isReady_4 ?_
  refine lv_if_eq (tgt := 26) hx hb d_C_isReady_7 (by decide) (fun hc1 => ?_) (fun hc1 => ?_)
  · have he := he.trans (if_pos hc1)
    refine lv_iconst (v := 0) hx hb d_C_isReady_26 (by decide) ?_
    exact W.zret (v := 0) hx hb hr (by decide) (fun t ht _ => ⟨by rw [he], ht⟩) (fun _ h => nomatch h) d_C_isReady_27
  · have he := he.trans (if_neg hc1)
    refine lv_aload_n hx hb d_C_isReady_10 rfl (lv_at hl 0 rfl) ?_
    refine va_get (D := D) (ci := 0) (v := .ref (ad 1)) (C := R_C) (T := F_C) (N := 7) hx hb hts in_C hown hK hP 0 cw_0 rfl 0 (by decide) (hts _ k_129) (fun _ h9 => h9) rfl d_C_isReady_11 ?_
    refine lv_iload_n hx hb d_C_isReady_14 rfl (lv_at hl 1 rfl) ?_
    have hi2 : vp_in p1 8 := (by first | with_reducible assumption | exact vi_isIn7 (by with_reducible assumption) | exact vi_isThing (by with_reducible assumption) | exact vi_decl (by with_reducible assumption) | exact vi_ready (by with_reducible assumption) | exact vi_run (by with_reducible assumption) (by with_reducible assumption) | exact vi_run (by with_reducible assumption) (vi_runner _) | exact vi_mTask (by with_reducible assumption) | exact vi_mThing (by with_reducible assumption) | exact vi_mdecl (by with_reducible assumption) | exact vi_mready (by with_reducible assumption))
    refine va_aldq hx hb hK hP 1 1 cw_1 rfl hi2 d_C_isReady_15 ?_
    have hj3 : p1.toNatClampNeg < 8 := vi_lt hi2
    refine W.eq (g2 := F0 m 16 ls [.ref (ad (5 + 2 * p1.toNatClampNeg))]) rfl ?_
    refine va_getN (D := D) (ci := 1) (v := .int (st (5 + 2 * p1.toNatClampNeg) 4)) (C := R_T) (T := F_T) (N := 10) hx hb hts in_T hown hK hP (5 + 2 * p1.toNatClampNeg) (cw_k hj3) rfl 4 (by decide) (va_Nw.use rfl (hN _ nk_C_146)) (fun _ h9 => h9) rfl d_C_isReady_16 ?_
    refine lv_if_eq (tgt := 26) hx hb d_C_isReady_19 (by decide) (fun hc4 => ?_) (fun hc4 => ?_)
    · have he := he.trans (if_pos hc4)
      refine lv_iconst (v := 0) hx hb d_C_isReady_26 (by decide) ?_
      exact W.zret (v := 0) hx hb hr (by decide) (fun t ht _ => ⟨by rw [he], ht⟩) (fun _ h => nomatch h) d_C_isReady_27
    · have he := he.trans (if_neg hc4)
      refine lv_iconst (v := 1) hx hb d_C_isReady_22 (by decide) ?_
      refine lv_goto (tgt := 27) hx hb d_C_isReady_23 (by decide) ?_
      exact W.zret (v := 1) hx hb hr (by decide) (fun t ht _ => ⟨by rw [he], ht⟩) (fun _ h => nomatch h) d_C_isReady_27
set_option maxHeartbeats 4000000 in
set_option maxRecDepth 100000 in
theorem c_C_isHeld (l : Launch) (D : va_G) (cI cT cH : ClassId) (ad : Nat → Nat) (st : St) (p1 : Int32) : Met l y_C_isHeld w_C_isHeld { frames := 2, cells := 0, slots := 0, locals := 42 } (va_Pc [.ref (ad 0), .int p1] (gW D cI cT cH (cw cI cT cH ad st))) (QcRead (f_C_isHeld st p1)) 0 0 (fun _ => False) := by
  refine Met.ofW (cc := b_C_isHeld) (maxL := 2) (ret := (some .boolean)) (by decide +kernel) rfl ?_
  intro p e s m args below meth c s₁ B hml hv
  obtain ⟨rfl, hP, hK, hN⟩ := hv
  have hx := B.exec
  have hb := B.bytes
  have hr := B.returns
  have hlocks := B.notSynchronized
  have hts0 := atoms_spec (ws := w_C_isHeld) B.pre
  have hts : ∀ w ∈ TT, w.before [.ref (ad 0), .int p1].toArray s = true := fun w h => hts0 w (List.mem_cons_of_mem _ h)
  have hown : s.vm.findClass R_C = some m.cls := findClass_of_methodNamed B.named
  have hl := lv_entry ([.ref (ad 0), .int p1]) (n := 2) (Nat.le_of_ble_eq_true rfl)
  rw [lg_entry_eq]
  generalize (lg_sl ([.ref (ad 0), .int p1]) ++ List.replicate (2 - (lg_sl ([.ref (ad 0), .int p1])).length) Slot.unset).toArray = ls at hl ⊢
  have hl : lv_has ls 2 [(0, .ref (ad 0)), (1, .int p1)] := hl
  have he := f_C_isHeld.eq_1 st p1
  refine lv_iload_n hx hb d_C_isHeld_0 rfl (lv_at hl 1 rfl) ?_
  refine rdS (As := [.int p1]) (rest := []) (na := 1) (c_C_isThing l p1 ) ⟨hx, hb, hml, hown, hts⟩ k_186 k_187 k_24 k_188 (by decide +kernel) (by decide) (by decide) rfl hl.1 rfl (Nat.le_of_ble_eq_true rfl) d_C_isHeld_1 ?_
  refine lv_if_eq (tgt := 24) hx hb d_C_isHeld_4 (by decide) (fun hc1 => ?_) (fun hc1 => ?_)
  · have he := he.trans (if_pos hc1)
    refine lv_iconst (v := 0) hx hb d_C_isHeld_24 (by decide) ?_
    exact W.zret (v := 0) hx hb hr (by decide) (fun t ht _ => ⟨by rw [he], ht⟩) (fun _ h => nomatch h) d_C_isHeld_25
  · have he := he.trans (if_neg hc1)
    refine lv_aload_n hx hb d_C_isHeld_7 rfl (lv_at hl 0 rfl) ?_
    refine va_get (D := D) (ci := 0) (v := .ref (ad 2)) (C := R_C) (T := F_C) (N := 7) hx hb hts in_C hown hK hP 0 cw_0 rfl 1 (by decide) (hts _ k_130) (fun _ h9 => h9) rfl d_C_isHeld_8 ?_
    refine lv_iload_n hx hb d_C_isHeld_11 rfl (lv_at hl 1 rfl) ?_
    have hi2 : vp_in p1 6 := (by first | with_reducible assumption | exact vi_isIn7 (by with_reducible assumption) | exact vi_isThing (by with_reducible assumption) | exact vi_decl (by with_reducible assumption) | exact vi_ready (by with_reducible assumption) | exact vi_run (by with_reducible assumption) (by with_reducible assumption) | exact vi_run (by with_reducible assumption) (vi_runner _) | exact vi_mTask (by with_reducible assumption) | exact vi_mThing (by with_reducible assumption) | exact vi_mdecl (by with_reducible assumption) | exact vi_mready (by with_reducible assumption))
    refine va_aldq hx hb hK hP 2 2 cw_2 rfl hi2 d_C_isHeld_12 ?_
    have hj3 : p1.toNatClampNeg < 6 := vi_lt hi2
    refine W.eq (g2 := F0 m 13 ls [.ref (ad (21 + p1.toNatClampNeg))]) rfl ?_
    refine va_getN (D := D) (ci := 2) (v := .int (st (21 + p1.toNatClampNeg) 1)) (C := R_H) (T := F_H) (N := 4) hx hb hts in_H hown hK hP (21 + p1.toNatClampNeg) (cw_h hj3) rfl 1 (by decide) (va_Nw.use rfl (hN _ nk_C_119)) (fun _ h9 => h9) rfl d_C_isHeld_13 ?_
    refine lv_iconst (v := (-1)) hx hb d_C_isHeld_16 (by decide) ?_
    refine lv_icmp_eq (tgt := 24) hx hb d_C_isHeld_17 (by decide) (fun hc4 => ?_) (fun hc4 => ?_)
    · have he := he.trans (if_pos hc4)
      refine lv_iconst (v := 0) hx hb d_C_isHeld_24 (by decide) ?_
      exact W.zret (v := 0) hx hb hr (by decide) (fun t ht _ => ⟨by rw [he], ht⟩) (fun _ h => nomatch h) d_C_isHeld_25
    · have he := he.trans (if_neg hc4)
      refine lv_iconst (v := 1) hx hb d_C_isHeld_20 (by decide) ?_
      refine lv_goto (tgt := 25) hx hb d_C_isHeld_21 (by decide) ?_
      exact W.zret (v := 1) hx hb hr (by decide) (fun t ht _ => ⟨by rw [he], ht⟩) (fun _ h => nomatch h) d_C_isHeld_25
set_option maxHeartbeats 4000000 in
set_option maxRecDepth 100000 in
theorem c_C_countDeclared (l : Launch) (D : va_G) (cI cT cH : ClassId) (ad : Nat → Nat) (st : St) : Met l y_C_countDeclared w_C_countDeclared { frames := 1, cells := 0, slots := 0, locals := 20 } (va_Pc [.ref (ad 0)] (gW D cI cT cH (cw cI cT cH ad st))) (QcRead (f_C_countDeclared st)) 0 0 (fun _ => False) := by
  refine Met.ofW (cc := b_C_countDeclared) (maxL := 3) (ret := (some .int)) (by decide +kernel) rfl ?_
  intro p e s m args below meth c s₁ B hml hv
  obtain ⟨rfl, hP, hK, hN⟩ := hv
  have hx := B.exec
  have hb := B.bytes
  have hr := B.returns
  have hlocks := B.notSynchronized
  have hts0 := atoms_spec (ws := w_C_countDeclared) B.pre
  have hts : ∀ w ∈ TT, w.before [.ref (ad 0)].toArray s = true := fun w h => hts0 w (List.mem_cons_of_mem _ h)
  have hown : s.vm.findClass R_C = some m.cls := findClass_of_methodNamed B.named
  have hl := lv_entry ([.ref (ad 0)]) (n := 3) (Nat.le_of_ble_eq_true rfl)
  rw [lg_entry_eq]
  generalize (lg_sl ([.ref (ad 0)]) ++ List.replicate (3 - (lg_sl ([.ref (ad 0)])).length) Slot.unset).toArray = ls at hl ⊢
  have hl : lv_has ls 3 [(0, .ref (ad 0))] := hl
  have L4 : ∀ (n i : Nat) (v1 : Int32) (ls : Array Slot), i + n = 8 → lv_has ls 3 [(0, .ref (ad 0)), (1, .int v1), (2, .int (nI i))] → f_C_countDeclared st = f_C_countDeclared_L4 n i st v1 → W p l e (headSpec w_C_countDeclared { frames := 1, cells := 0, slots := 0, locals := 20 }).room s m [.ref (ad 0)].toArray below meth c s.heap [] 0 0 (MQ below (QcRead (f_C_countDeclared st)) [.ref (ad 0)].toArray s 0 0 (fun _ => False)) (F0 m 4 ls []) := by
    intro n
    induction n with
    | zero =>
      intro i v1 ls hcnt hl he
      have hz : i = 8 := by omega
      subst hz
      rw [f_C_countDeclared_L4] at he
      refine lv_iload_n hx hb d_C_countDeclared_4 rfl (lv_at hl 2 rfl) ?_
      refine lv_bipush (v := 8) hx hb d_C_countDeclared_5 (by decide) ?_
      refine lv_icmp_ge (tgt := 31) hx hb d_C_countDeclared_7 (by decide) (fun _ => ?_) (fun h9 => absurd (by decide) h9)
      refine lv_iload_n hx hb d_C_countDeclared_31 rfl (lv_at hl 1 rfl) ?_
      exact W.iret (v := v1) hx hb hr (fun t ht _ => ⟨by rw [he], ht⟩) (fun _ h => nomatch h) d_C_countDeclared_32
    | succ n ih =>
      intro i v1 ls hcnt hl he
      have hi8 : i < 8 := by omega
      rw [f_C_countDeclared_L4] at he
      refine lv_iload_n hx hb d_C_countDeclared_4 rfl (lv_at hl 2 rfl) ?_
      refine lv_bipush (v := 8) hx hb d_C_countDeclared_5 (by decide) ?_
      refine lv_icmp_ge (tgt := 31) hx hb d_C_countDeclared_7 (by decide) (fun h9 => absurd h9 (nlt_8 hi8)) (fun _ => ?_)
      refine lv_aload_n hx hb d_C_countDeclared_10 rfl (lv_at hl 0 rfl) ?_
      refine va_get (D := D) (ci := 0) (v := .ref (ad 1)) (C := R_C) (T := F_C) (N := 7) hx hb hts in_C hown hK hP 0 cw_0 rfl 0 (by decide) (hts _ k_129) (fun _ h9 => h9) rfl d_C_countDeclared_11 ?_
      refine lv_iload_n hx hb d_C_countDeclared_14 rfl (lv_at hl 2 rfl) ?_
      have hi1 : vp_in (nI i) 8 := (vp_in_nI (by omega) (by decide))
      refine va_aldq hx hb hK hP 1 1 cw_1 rfl hi1 d_C_countDeclared_15 ?_
      have hj2 : (nI i).toNatClampNeg < 8 := vi_lt hi1
      rw [show (nI i).toNatClampNeg = i from nI_clamp (by omega)]
      rw [show (nI i).toNatClampNeg = i from nI_clamp (by omega)] at hj2
      refine W.eq (g2 := F0 m 16 ls [.ref (ad (5 + 2 * i))]) rfl ?_
      refine rdV (As := []) (rest := []) (na := 0) (c_T_isDeclared l D cI cT cH ad st i hj2) ⟨hx, hb, hml, hown, hts⟩ k_166 k_167 k_168 k_26 k_169 (by decide +kernel) (by decide) (by decide) hP hK hN (q0 := (5 + 2 * i)) (ci := 1) (cw_k hj2) rfl rfl hl.1 rfl (Nat.le_of_ble_eq_true rfl) d_C_countDeclared_16 ?_
      refine lv_if_eq (tgt := 25) hx hb d_C_countDeclared_19 (by decide) (fun hc3 => ?_) (fun hc3 => ?_)
      · have he := he.trans (if_pos hc3)
        refine lv_iinc (k := 2) (v := (nI (i + 1))) hx hb d_C_countDeclared_25 hl rfl (by first | rfl | (rw [nI_succ]; rfl)) (by decide) rfl (fun ls hl => ?_)
        have hl : lv_has ls 3 [(2, .int (nI (i + 1))), (0, .ref (ad 0)), (1, .int v1)] := hl
        refine lv_goto (tgt := 4) hx hb d_C_countDeclared_28 (by decide) ?_
        exact ih (i + 1) v1 ls (by omega) (lv_sub hl [1, 2, 0] rfl) he
      · have he := he.trans (if_neg hc3)
        refine lv_iinc (k := 1) (v := (v1 + 1)) hx hb d_C_countDeclared_22 hl rfl (by first | rfl | (rw [nI_succ]; rfl)) (by decide) rfl (fun ls hl => ?_)
        have hl : lv_has ls 3 [(1, .int (v1 + 1)), (0, .ref (ad 0)), (2, .int (nI i))] := hl
        refine lv_iinc (k := 2) (v := (nI (i + 1))) hx hb d_C_countDeclared_25 hl rfl (by first | rfl | (rw [nI_succ]; rfl)) (by decide) rfl (fun ls hl => ?_)
        have hl : lv_has ls 3 [(2, .int (nI (i + 1))), (1, .int (v1 + 1)), (0, .ref (ad 0))] := hl
        refine lv_goto (tgt := 4) hx hb d_C_countDeclared_28 (by decide) ?_
        exact ih (i + 1) (v1 + 1) ls (by omega) (lv_sub hl [2, 1, 0] rfl) he
  have he := f_C_countDeclared.eq_1 st
  refine lv_iconst (v := 0) hx hb d_C_countDeclared_0 (by decide) ?_
  refine lv_istore_n hx hb d_C_countDeclared_1 rfl hl (by decide) rfl (fun ls hl => ?_)
  have hl : lv_has ls 3 [(1, .int 0), (0, .ref (ad 0))] := hl
  refine lv_iconst (v := 0) hx hb d_C_countDeclared_2 (by decide) ?_
  refine lv_istore_n hx hb d_C_countDeclared_3 rfl hl (by decide) rfl (fun ls hl => ?_)
  have hl : lv_has ls 3 [(2, .int 0), (1, .int 0), (0, .ref (ad 0))] := hl
  exact L4 8 0 0 ls (by first | decide | omega) (lv_sub hl [2, 1, 0] rfl) he
set_option maxHeartbeats 4000000 in
set_option maxRecDepth 100000 in
theorem c_C_greatestBaseOfUsers (l : Launch) (D : va_G) (cI cT cH : ClassId) (ad : Nat → Nat) (st : St) (p1 : Int32) (hy0 : vp_in p1 6) : Met l y_C_greatestBaseOfUsers w_C_greatestBaseOfUsers { frames := 1, cells := 0, slots := 0, locals := 21 } (va_Pc [.ref (ad 0), .int p1] (gW D cI cT cH (cw cI cT cH ad st))) (QcRead (f_C_greatestBaseOfUsers st p1)) 0 0 (fun _ => False) := by
  refine Met.ofW (cc := b_C_greatestBaseOfUsers) (maxL := 4) (ret := (some .int)) (by decide +kernel) rfl ?_
  intro p e s m args below meth c s₁ B hml hv
  obtain ⟨rfl, hP, hK, hN⟩ := hv
  have hx := B.exec
  have hb := B.bytes
  have hr := B.returns
  have hlocks := B.notSynchronized
  have hts0 := atoms_spec (ws := w_C_greatestBaseOfUsers) B.pre
  have hts : ∀ w ∈ TT, w.before [.ref (ad 0), .int p1].toArray s = true := fun w h => hts0 w (List.mem_cons_of_mem _ h)
  have hown : s.vm.findClass R_C = some m.cls := findClass_of_methodNamed B.named
  have hl := lv_entry ([.ref (ad 0), .int p1]) (n := 4) (Nat.le_of_ble_eq_true rfl)
  rw [lg_entry_eq]
  generalize (lg_sl ([.ref (ad 0), .int p1]) ++ List.replicate (4 - (lg_sl ([.ref (ad 0), .int p1])).length) Slot.unset).toArray = ls at hl ⊢
  have hl : lv_has ls 4 [(0, .ref (ad 0)), (1, .int p1)] := hl
  have L4 : ∀ (n i : Nat) (v2 : Int32) (ls : Array Slot), i + n = 8 → lv_has ls 4 [(0, .ref (ad 0)), (1, .int p1), (2, .int v2), (3, .int (nI i))] → f_C_greatestBaseOfUsers st p1 = f_C_greatestBaseOfUsers_L4 n i st p1 v2 → W p l e (headSpec w_C_greatestBaseOfUsers { frames := 1, cells := 0, slots := 0, locals := 21 }).room s m [.ref (ad 0), .int p1].toArray below meth c s.heap [] 0 0 (MQ below (QcRead (f_C_greatestBaseOfUsers st p1)) [.ref (ad 0), .int p1].toArray s 0 0 (fun _ => False)) (F0 m 4 ls []) := by
    intro n
    induction n with
    | zero =>
      intro i v2 ls hcnt hl he
      have hz : i = 8 := by omega
      subst hz
      rw [f_C_greatestBaseOfUsers_L4] at he
      refine lv_iload_n hx hb d_C_greatestBaseOfUsers_4 rfl (lv_at hl 3 rfl) ?_
      refine lv_bipush (v := 8) hx hb d_C_greatestBaseOfUsers_5 (by decide) ?_
      refine lv_icmp_ge (tgt := 43) hx hb d_C_greatestBaseOfUsers_7 (by decide) (fun _ => ?_) (fun h9 => absurd (by decide) h9)
      refine lv_iload_n hx hb d_C_greatestBaseOfUsers_43 rfl (lv_at hl 2 rfl) ?_
      exact W.iret (v := v2) hx hb hr (fun t ht _ => ⟨by rw [he], ht⟩) (fun _ h => nomatch h) d_C_greatestBaseOfUsers_44
    | succ n ih =>
      intro i v2 ls hcnt hl he
      have hi8 : i < 8 := by omega
      rw [f_C_greatestBaseOfUsers_L4] at he
      refine lv_iload_n hx hb d_C_greatestBaseOfUsers_4 rfl (lv_at hl 3 rfl) ?_
      refine lv_bipush (v := 8) hx hb d_C_greatestBaseOfUsers_5 (by decide) ?_
      refine lv_icmp_ge (tgt := 43) hx hb d_C_greatestBaseOfUsers_7 (by decide) (fun h9 => absurd h9 (nlt_8 hi8)) (fun _ => ?_)
      refine lv_aload_n hx hb d_C_greatestBaseOfUsers_10 rfl (lv_at hl 0 rfl) ?_
      refine va_get (D := D) (ci := 0) (v := .ref (ad 1)) (C := R_C) (T := F_C) (N := 7) hx hb hts in_C hown hK hP 0 cw_0 rfl 0 (by decide) (hts _ k_129) (fun _ h9 => h9) rfl d_C_greatestBaseOfUsers_11 ?_
      refine lv_iload_n hx hb d_C_greatestBaseOfUsers_14 rfl (lv_at hl 3 rfl) ?_
      have hi1 : vp_in (nI i) 8 := (vp_in_nI (by omega) (by decide))
      refine va_aldq hx hb hK hP 1 1 cw_1 rfl hi1 d_C_greatestBaseOfUsers_15 ?_
      have hj2 : (nI i).toNatClampNeg < 8 := vi_lt hi1
      rw [show (nI i).toNatClampNeg = i from nI_clamp (by omega)]
      rw [show (nI i).toNatClampNeg = i from nI_clamp (by omega)] at hj2
      refine W.eq (g2 := F0 m 16 ls [.ref (ad (5 + 2 * i))]) rfl ?_
      refine lv_iload_n hx hb d_C_greatestBaseOfUsers_16 rfl (lv_at hl 1 rfl) ?_
      refine rdV (As := [.int p1]) (rest := []) (na := 1) (c_T_isUserOf l D cI cT cH ad st i p1 hj2 (by first | with_reducible assumption | exact vi_isIn7 (by with_reducible assumption) | exact vi_isThing (by with_reducible assumption) | exact vi_decl (by with_reducible assumption) | exact vi_ready (by with_reducible assumption) | exact vi_run (by with_reducible assumption) (by with_reducible assumption) | exact vi_run (by with_reducible assumption) (vi_runner _) | exact vi_mTask (by with_reducible assumption) | exact vi_mThing (by with_reducible assumption) | exact vi_mdecl (by with_reducible assumption) | exact vi_mready (by with_reducible assumption))) ⟨hx, hb, hml, hown, hts⟩ k_352 k_353 k_354 k_26 k_355 (by decide +kernel) (by decide) (by decide) hP hK hN (q0 := (5 + 2 * i)) (ci := 1) (cw_k hj2) rfl rfl hl.1 rfl (Nat.le_of_ble_eq_true rfl) d_C_greatestBaseOfUsers_17 ?_
      refine lv_if_eq (tgt := 37) hx hb d_C_greatestBaseOfUsers_20 (by decide) (fun hc3 => ?_) (fun hc3 => ?_)
      · have he := he.trans (if_pos hc3)
        refine lv_iinc (k := 3) (v := (nI (i + 1))) hx hb d_C_greatestBaseOfUsers_37 hl rfl (by first | rfl | (rw [nI_succ]; rfl)) (by decide) rfl (fun ls hl => ?_)
        have hl : lv_has ls 4 [(3, .int (nI (i + 1))), (0, .ref (ad 0)), (1, .int p1), (2, .int v2)] := hl
        refine lv_goto (tgt := 4) hx hb d_C_greatestBaseOfUsers_40 (by decide) ?_
        exact ih (i + 1) v2 ls (by omega) (lv_sub hl [1, 2, 3, 0] rfl) he
      · have he := he.trans (if_neg hc3)
        refine lv_iload_n hx hb d_C_greatestBaseOfUsers_23 rfl (lv_at hl 2 rfl) ?_
        refine lv_aload_n hx hb d_C_greatestBaseOfUsers_24 rfl (lv_at hl 0 rfl) ?_
        refine va_get (D := D) (ci := 0) (v := .ref (ad 1)) (C := R_C) (T := F_C) (N := 7) hx hb hts in_C hown hK hP 0 cw_0 rfl 0 (by decide) (hts _ k_129) (fun _ h9 => h9) rfl d_C_greatestBaseOfUsers_25 ?_
        refine lv_iload_n hx hb d_C_greatestBaseOfUsers_28 rfl (lv_at hl 3 rfl) ?_
        have hi4 : vp_in (nI i) 8 := (vp_in_nI (by omega) (by decide))
        refine va_aldq hx hb hK hP 1 1 cw_1 rfl hi4 d_C_greatestBaseOfUsers_29 ?_
        have hj5 : (nI i).toNatClampNeg < 8 := vi_lt hi4
        rw [show (nI i).toNatClampNeg = i from nI_clamp (by omega)]
        rw [show (nI i).toNatClampNeg = i from nI_clamp (by omega)] at hj5
        refine W.eq (g2 := F0 m 30 ls [.ref (ad (5 + 2 * i)), .int v2]) rfl ?_
        refine va_getN (D := D) (ci := 1) (v := .int (st (5 + 2 * i) 0)) (C := R_T) (T := F_T) (N := 10) hx hb hts in_T hown hK hP (5 + 2 * i) (cw_k hj5) rfl 0 (by decide) (va_Nw.use rfl (hN _ nk_C_64)) (fun _ h9 => h9) rfl d_C_greatestBaseOfUsers_30 ?_
        refine va_mmax hx hb (hml.trans hl.1.symm) hown (hts _ k_209) (hts _ k_210) (hts _ k_34) (hts _ k_211) (Nat.le_of_ble_eq_true rfl) (Nat.le_of_ble_eq_true rfl) (Nat.le_of_ble_eq_true rfl) (Nat.le_of_ble_eq_true rfl) d_C_greatestBaseOfUsers_33 ?_
        refine W.eq (g2 := F0 m 36 ls [.int (imax v2 (st (5 + 2 * i) 0))]) rfl ?_
        refine lv_istore_n hx hb d_C_greatestBaseOfUsers_36 rfl hl (by decide) rfl (fun ls hl => ?_)
        have hl : lv_has ls 4 [(2, .int (imax v2 (st (5 + 2 * i) 0))), (0, .ref (ad 0)), (1, .int p1), (3, .int (nI i))] := hl
        refine lv_iinc (k := 3) (v := (nI (i + 1))) hx hb d_C_greatestBaseOfUsers_37 hl rfl (by first | rfl | (rw [nI_succ]; rfl)) (by decide) rfl (fun ls hl => ?_)
        have hl : lv_has ls 4 [(3, .int (nI (i + 1))), (2, .int (imax v2 (st (5 + 2 * i) 0))), (0, .ref (ad 0)), (1, .int p1)] := hl
        refine lv_goto (tgt := 4) hx hb d_C_greatestBaseOfUsers_40 (by decide) ?_
        exact ih (i + 1) (imax v2 (st (5 + 2 * i) 0)) ls (by omega) (lv_sub hl [2, 3, 1, 0] rfl) he
  have he := f_C_greatestBaseOfUsers.eq_1 st p1
  refine lv_iconst (v := 0) hx hb d_C_greatestBaseOfUsers_0 (by decide) ?_
  refine lv_istore_n hx hb d_C_greatestBaseOfUsers_1 rfl hl (by decide) rfl (fun ls hl => ?_)
  have hl : lv_has ls 4 [(2, .int 0), (0, .ref (ad 0)), (1, .int p1)] := hl
  refine lv_iconst (v := 0) hx hb d_C_greatestBaseOfUsers_2 (by decide) ?_
  refine lv_istore_n hx hb d_C_greatestBaseOfUsers_3 rfl hl (by decide) rfl (fun ls hl => ?_)
  have hl : lv_has ls 4 [(3, .int 0), (2, .int 0), (0, .ref (ad 0)), (1, .int p1)] := hl
  exact L4 8 0 0 ls (by first | decide | omega) (lv_sub hl [2, 3, 1, 0] rfl) he
set_option maxHeartbeats 4000000 in
set_option maxRecDepth 100000 in
theorem c_C_mostUrgent (l : Launch) (D : va_G) (cI cT cH : ClassId) (ad : Nat → Nat) (st : St) : Met l y_C_mostUrgent w_C_mostUrgent { frames := 1, cells := 0, slots := 0, locals := 21 } (va_Pc [.ref (ad 0)] (gW D cI cT cH (cw cI cT cH ad st))) (QcRead (f_C_mostUrgent st)) 0 0 (fun _ => False) := by
  refine Met.ofW (cc := b_C_mostUrgent) (maxL := 3) (ret := (some .int)) (by decide +kernel) rfl ?_
  intro p e s m args below meth c s₁ B hml hv
  obtain ⟨rfl, hP, hK, hN⟩ := hv
  have hx := B.exec
  have hb := B.bytes
  have hr := B.returns
  have hlocks := B.notSynchronized
  have hts0 := atoms_spec (ws := w_C_mostUrgent) B.pre
  have hts : ∀ w ∈ TT, w.before [.ref (ad 0)].toArray s = true := fun w h => hts0 w (List.mem_cons_of_mem _ h)
  have hown : s.vm.findClass R_C = some m.cls := findClass_of_methodNamed B.named
  have hl := lv_entry ([.ref (ad 0)]) (n := 3) (Nat.le_of_ble_eq_true rfl)
  rw [lg_entry_eq]
  generalize (lg_sl ([.ref (ad 0)]) ++ List.replicate (3 - (lg_sl ([.ref (ad 0)])).length) Slot.unset).toArray = ls at hl ⊢
  have hl : lv_has ls 3 [(0, .ref (ad 0))] := hl
  have L4 : ∀ (n i : Nat) (v1 : Int32) (ls : Array Slot), i + n = 8 → lv_has ls 3 [(0, .ref (ad 0)), (1, .int v1), (2, .int (nI i))] → (v1 = (-1) ∨ vp_in v1 8) → f_C_mostUrgent st = f_C_mostUrgent_L4 n i st v1 → W p l e (headSpec w_C_mostUrgent { frames := 1, cells := 0, slots := 0, locals := 21 }).room s m [.ref (ad 0)].toArray below meth c s.heap [] 0 0 (MQ below (QcRead (f_C_mostUrgent st)) [.ref (ad 0)].toArray s 0 0 (fun _ => False)) (F0 m 4 ls []) := by
    intro n
    induction n with
    | zero =>
      intro i v1 ls hcnt hl g0 he
      have hz : i = 8 := by omega
      subst hz
      rw [f_C_mostUrgent_L4] at he
      refine lv_iload_n hx hb d_C_mostUrgent_4 rfl (lv_at hl 2 rfl) ?_
      refine lv_bipush (v := 8) hx hb d_C_mostUrgent_5 (by decide) ?_
      refine lv_icmp_ge (tgt := 53) hx hb d_C_mostUrgent_7 (by decide) (fun _ => ?_) (fun h9 => absurd (by decide) h9)
      refine lv_iload_n hx hb d_C_mostUrgent_53 rfl (lv_at hl 1 rfl) ?_
      exact W.iret (v := v1) hx hb hr (fun t ht _ => ⟨by rw [he], ht⟩) (fun _ h => nomatch h) d_C_mostUrgent_54
    | succ n ih =>
      intro i v1 ls hcnt hl g0 he
      have hi8 : i < 8 := by omega
      rw [f_C_mostUrgent_L4] at he
      refine lv_iload_n hx hb d_C_mostUrgent_4 rfl (lv_at hl 2 rfl) ?_
      refine lv_bipush (v := 8) hx hb d_C_mostUrgent_5 (by decide) ?_
      refine lv_icmp_ge (tgt := 53) hx hb d_C_mostUrgent_7 (by decide) (fun h9 => absurd h9 (nlt_8 hi8)) (fun _ => ?_)
      refine lv_aload_n hx hb d_C_mostUrgent_10 rfl (lv_at hl 0 rfl) ?_
      refine va_get (D := D) (ci := 0) (v := .ref (ad 1)) (C := R_C) (T := F_C) (N := 7) hx hb hts in_C hown hK hP 0 cw_0 rfl 0 (by decide) (hts _ k_129) (fun _ h9 => h9) rfl d_C_mostUrgent_11 ?_
      refine lv_iload_n hx hb d_C_mostUrgent_14 rfl (lv_at hl 2 rfl) ?_
      have hi1 : vp_in (nI i) 8 := (vp_in_nI (by omega) (by decide))
      refine va_aldq hx hb hK hP 1 1 cw_1 rfl hi1 d_C_mostUrgent_15 ?_
      have hj2 : (nI i).toNatClampNeg < 8 := vi_lt hi1
      rw [show (nI i).toNatClampNeg = i from nI_clamp (by omega)]
      rw [show (nI i).toNatClampNeg = i from nI_clamp (by omega)] at hj2
      refine W.eq (g2 := F0 m 16 ls [.ref (ad (5 + 2 * i))]) rfl ?_
      refine va_getN (D := D) (ci := 1) (v := .int (st (5 + 2 * i) 4)) (C := R_T) (T := F_T) (N := 10) hx hb hts in_T hown hK hP (5 + 2 * i) (cw_k hj2) rfl 4 (by decide) (va_Nw.use rfl (hN _ nk_C_146)) (fun _ h9 => h9) rfl d_C_mostUrgent_16 ?_
      refine lv_if_eq (tgt := 47) hx hb d_C_mostUrgent_19 (by decide) (fun hc3 => ?_) (fun hc3 => ?_)
      · have he := he.trans (if_pos hc3)
        refine lv_iinc (k := 2) (v := (nI (i + 1))) hx hb d_C_mostUrgent_47 hl rfl (by first | rfl | (rw [nI_succ]; rfl)) (by decide) rfl (fun ls hl => ?_)
        have hl : lv_has ls 3 [(2, .int (nI (i + 1))), (0, .ref (ad 0)), (1, .int v1)] := hl
        refine lv_goto (tgt := 4) hx hb d_C_mostUrgent_50 (by decide) ?_
        exact ih (i + 1) v1 ls (by omega) (lv_sub hl [1, 2, 0] rfl) (by first | with_reducible assumption | exact Or.inl rfl | exact (fun h9 => absurd h9 (by decide)) | exact (fun h9 => absurd rfl h9) | exact vi_runner _ | exact Or.inr (vp_in_nI (by omega) (by decide)) | exact Or.inr (by first | with_reducible assumption | exact vi_isIn7 (by with_reducible assumption) | exact vi_isThing (by with_reducible assumption) | exact vi_decl (by with_reducible assumption) | exact vi_ready (by with_reducible assumption) | exact vi_run (by with_reducible assumption) (by with_reducible assumption) | exact vi_run (by with_reducible assumption) (vi_runner _) | exact vi_mTask (by with_reducible assumption) | exact vi_mThing (by with_reducible assumption) | exact vi_mdecl (by with_reducible assumption) | exact vi_mready (by with_reducible assumption)) | exact (fun _ => ⟨(by first | with_reducible assumption | exact vi_isIn7 (by with_reducible assumption) | exact vi_isThing (by with_reducible assumption) | exact vi_decl (by with_reducible assumption) | exact vi_ready (by with_reducible assumption) | exact vi_run (by with_reducible assumption) (by with_reducible assumption) | exact vi_run (by with_reducible assumption) (vi_runner _) | exact vi_mTask (by with_reducible assumption) | exact vi_mThing (by with_reducible assumption) | exact vi_mdecl (by with_reducible assumption) | exact vi_mready (by with_reducible assumption)), (by first | with_reducible assumption | exact vi_isIn7 (by with_reducible assumption) | exact vi_isThing (by with_reducible assumption) | exact vi_decl (by with_reducible assumption) | exact vi_ready (by with_reducible assumption) | exact vi_run (by with_reducible assumption) (by with_reducible assumption) | exact vi_run (by with_reducible assumption) (vi_runner _) | exact vi_mTask (by with_reducible assumption) | exact vi_mThing (by with_reducible assumption) | exact vi_mdecl (by with_reducible assumption) | exact vi_mready (by with_reducible assumption))⟩) | exact (fun _ => ⟨vi_latest (by with_reducible assumption) (by with_reducible assumption), vi_run (by with_reducible assumption) (by with_reducible assumption)⟩) | exact (fun _ => (by with_reducible assumption : ¬ v4 = 0 → _) (by with_reducible assumption)) | exact (fun _ => (by first | with_reducible assumption | exact vi_isIn7 (by with_reducible assumption) | exact vi_isThing (by with_reducible assumption) | exact vi_decl (by with_reducible assumption) | exact vi_ready (by with_reducible assumption) | exact vi_run (by with_reducible assumption) (by with_reducible assumption) | exact vi_run (by with_reducible assumption) (vi_runner _) | exact vi_mTask (by with_reducible assumption) | exact vi_mThing (by with_reducible assumption) | exact vi_mdecl (by with_reducible assumption) | exact vi_mready (by with_reducible assumption))) | exact (by first | with_reducible assumption | exact vi_isIn7 (by with_reducible assumption) | exact vi_isThing (by with_reducible assumption) | exact vi_decl (by with_reducible assumption) | exact vi_ready (by with_reducible assumption) | exact vi_run (by with_reducible assumption) (by with_reducible assumption) | exact vi_run (by with_reducible assumption) (vi_runner _) | exact vi_mTask (by with_reducible assumption) | exact vi_mThing (by with_reducible assumption) | exact vi_mdecl (by with_reducible assumption) | exact vi_mready (by with_reducible assumption))) he
      · have he := he.trans (if_neg hc3)
        refine lv_iload_n hx hb d_C_mostUrgent_22 rfl (lv_at hl 1 rfl) ?_
        refine lv_iconst (v := (-1)) hx hb d_C_mostUrgent_23 (by decide) ?_
        refine lv_icmp_eq (tgt := 45) hx hb d_C_mostUrgent_24 (by decide) (fun hc4 => ?_) (fun hc4 => ?_)
        · have he := he.trans (if_pos hc4)
          refine lv_iload_n hx hb d_C_mostUrgent_45 rfl (lv_at hl 2 rfl) ?_
          refine lv_istore_n hx hb d_C_mostUrgent_46 rfl hl (by decide) rfl (fun ls hl => ?_)
          have hl : lv_has ls 3 [(1, .int (nI i)), (0, .ref (ad 0)), (2, .int (nI i))] := hl
          refine lv_iinc (k := 2) (v := (nI (i + 1))) hx hb d_C_mostUrgent_47 hl rfl (by first | rfl | (rw [nI_succ]; rfl)) (by decide) rfl (fun ls hl => ?_)
          have hl : lv_has ls 3 [(2, .int (nI (i + 1))), (1, .int (nI i)), (0, .ref (ad 0))] := hl
          refine lv_goto (tgt := 4) hx hb d_C_mostUrgent_50 (by decide) ?_
          exact ih (i + 1) (nI i) ls (by omega) (lv_sub hl [2, 1, 0] rfl) (by first | with_reducible assumption | exact Or.inl rfl | exact (fun h9 => absurd h9 (by decide)) | exact (fun h9 => absurd rfl h9) | exact vi_runner _ | exact Or.inr (vp_in_nI (by omega) (by decide)) | exact Or.inr (by first | with_reducible assumption | exact vi_isIn7 (by with_reducible assumption) | exact vi_isThing (by with_reducible assumption) | exact vi_decl (by with_reducible assumption) | exact vi_ready (by with_reducible assumption) | exact vi_run (by with_reducible assumption) (by with_reducible assumption) | exact vi_run (by with_reducible assumption) (vi_runner _) | exact vi_mTask (by with_reducible assumption) | exact vi_mThing (by with_reducible assumption) | exact vi_mdecl (by with_reducible assumption) | exact vi_mready (by with_reducible assumption)) | exact (fun _ => ⟨(by first | with_reducible assumption | exact vi_isIn7 (by with_reducible assumption) | exact vi_isThing (by with_reducible assumption) | exact vi_decl (by with_reducible assumption) | exact vi_ready (by with_reducible assumption) | exact vi_run (by with_reducible assumption) (by with_reducible assumption) | exact vi_run (by with_reducible assumption) (vi_runner _) | exact vi_mTask (by with_reducible assumption) | exact vi_mThing (by with_reducible assumption) | exact vi_mdecl (by with_reducible assumption) | exact vi_mready (by with_reducible assumption)), (by first | with_reducible assumption | exact vi_isIn7 (by with_reducible assumption) | exact vi_isThing (by with_reducible assumption) | exact vi_decl (by with_reducible assumption) | exact vi_ready (by with_reducible assumption) | exact vi_run (by with_reducible assumption) (by with_reducible assumption) | exact vi_run (by with_reducible assumption) (vi_runner _) | exact vi_mTask (by with_reducible assumption) | exact vi_mThing (by with_reducible assumption) | exact vi_mdecl (by with_reducible assumption) | exact vi_mready (by with_reducible assumption))⟩) | exact (fun _ => ⟨vi_latest (by with_reducible assumption) (by with_reducible assumption), vi_run (by with_reducible assumption) (by with_reducible assumption)⟩) | exact (fun _ => (by with_reducible assumption : ¬ v4 = 0 → _) (by with_reducible assumption)) | exact (fun _ => (by first | with_reducible assumption | exact vi_isIn7 (by with_reducible assumption) | exact vi_isThing (by with_reducible assumption) | exact vi_decl (by with_reducible assumption) | exact vi_ready (by with_reducible assumption) | exact vi_run (by with_reducible assumption) (by with_reducible assumption) | exact vi_run (by with_reducible assumption) (vi_runner _) | exact vi_mTask (by with_reducible assumption) | exact vi_mThing (by with_reducible assumption) | exact vi_mdecl (by with_reducible assumption) | exact vi_mready (by with_reducible assumption))) | exact (by first | with_reducible assumption | exact vi_isIn7 (by with_reducible assumption) | exact vi_isThing (by with_reducible assumption) | exact vi_decl (by with_reducible assumption) | exact vi_ready (by with_reducible assumption) | exact vi_run (by with_reducible assumption) (by with_reducible assumption) | exact vi_run (by with_reducible assumption) (vi_runner _) | exact vi_mTask (by with_reducible assumption) | exact vi_mThing (by with_reducible assumption) | exact vi_mdecl (by with_reducible assumption) | exact vi_mready (by with_reducible assumption))) he
        · have he := he.trans (if_neg hc4)
          refine lv_aload_n hx hb d_C_mostUrgent_27 rfl (lv_at hl 0 rfl) ?_
          refine va_get (D := D) (ci := 0) (v := .ref (ad 1)) (C := R_C) (T := F_C) (N := 7) hx hb hts in_C hown hK hP 0 cw_0 rfl 0 (by decide) (hts _ k_129) (fun _ h9 => h9) rfl d_C_mostUrgent_28 ?_
          refine lv_iload_n hx hb d_C_mostUrgent_31 rfl (lv_at hl 2 rfl) ?_
          have hi5 : vp_in (nI i) 8 := (vp_in_nI (by omega) (by decide))
          refine va_aldq hx hb hK hP 1 1 cw_1 rfl hi5 d_C_mostUrgent_32 ?_
          have hj6 : (nI i).toNatClampNeg < 8 := vi_lt hi5
          rw [show (nI i).toNatClampNeg = i from nI_clamp (by omega)]
          rw [show (nI i).toNatClampNeg = i from nI_clamp (by omega)] at hj6
          refine W.eq (g2 := F0 m 33 ls [.ref (ad (5 + 2 * i))]) rfl ?_
          refine lv_aload_n hx hb d_C_mostUrgent_33 rfl (lv_at hl 0 rfl) ?_
          refine va_get (D := D) (ci := 0) (v := .ref (ad 1)) (C := R_C) (T := F_C) (N := 7) hx hb hts in_C hown hK hP 0 cw_0 rfl 0 (by decide) (hts _ k_129) (fun _ h9 => h9) rfl d_C_mostUrgent_34 ?_
          refine lv_iload_n hx hb d_C_mostUrgent_37 rfl (lv_at hl 1 rfl) ?_
          have hi7 : vp_in v1 8 := (by first | with_reducible assumption | exact vi_isIn7 (by with_reducible assumption) | exact vi_isThing (by with_reducible assumption) | exact vi_decl (by with_reducible assumption) | exact vi_ready (by with_reducible assumption) | exact vi_run (by with_reducible assumption) (by with_reducible assumption) | exact vi_run (by with_reducible assumption) (vi_runner _) | exact vi_mTask (by with_reducible assumption) | exact vi_mThing (by with_reducible assumption) | exact vi_mdecl (by with_reducible assumption) | exact vi_mready (by with_reducible assumption))
          refine va_aldq hx hb hK hP 1 1 cw_1 rfl hi7 d_C_mostUrgent_38 ?_
          have hj8 : v1.toNatClampNeg < 8 := vi_lt hi7
          refine W.eq (g2 := F0 m 39 ls [.ref (ad (5 + 2 * v1.toNatClampNeg)), .ref (ad (5 + 2 * i))]) rfl ?_
          refine rdV (As := [.ref (ad (5 + 2 * v1.toNatClampNeg))]) (rest := []) (na := 1) (c_T_goesBefore l D cI cT cH ad st i v1.toNatClampNeg hj6 hj8) ⟨hx, hb, hml, hown, hts⟩ k_178 k_179 k_180 k_26 k_181 (by decide +kernel) (by decide) (by decide) hP hK hN (q0 := (5 + 2 * i)) (ci := 1) (cw_k hj6) rfl rfl hl.1 rfl (Nat.le_of_ble_eq_true rfl) d_C_mostUrgent_39 ?_
          refine lv_if_eq (tgt := 47) hx hb d_C_mostUrgent_42 (by decide) (fun hc9 => ?_) (fun hc9 => ?_)
          · have he := he.trans (if_pos hc9)
            refine lv_iinc (k := 2) (v := (nI (i + 1))) hx hb d_C_mostUrgent_47 hl rfl (by first | rfl | (rw [nI_succ]; rfl)) (by decide) rfl (fun ls hl => ?_)
            have hl : lv_has ls 3 [(2, .int (nI (i + 1))), (0, .ref (ad 0)), (1, .int v1)] := hl
            refine lv_goto (tgt := 4) hx hb d_C_mostUrgent_50 (by decide) ?_
            exact ih (i + 1) v1 ls (by omega) (lv_sub hl [1, 2, 0] rfl) (by first | with_reducible assumption | exact Or.inl rfl | exact (fun h9 => absurd h9 (by decide)) | exact (fun h9 => absurd rfl h9) | exact vi_runner _ | exact Or.inr (vp_in_nI (by omega) (by decide)) | exact Or.inr (by first | with_reducible assumption | exact vi_isIn7 (by with_reducible assumption) | exact vi_isThing (by with_reducible assumption) | exact vi_decl (by with_reducible assumption) | exact vi_ready (by with_reducible assumption) | exact vi_run (by with_reducible assumption) (by with_reducible assumption) | exact vi_run (by with_reducible assumption) (vi_runner _) | exact vi_mTask (by with_reducible assumption) | exact vi_mThing (by with_reducible assumption) | exact vi_mdecl (by with_reducible assumption) | exact vi_mready (by with_reducible assumption)) | exact (fun _ => ⟨(by first | with_reducible assumption | exact vi_isIn7 (by with_reducible assumption) | exact vi_isThing (by with_reducible assumption) | exact vi_decl (by with_reducible assumption) | exact vi_ready (by with_reducible assumption) | exact vi_run (by with_reducible assumption) (by with_reducible assumption) | exact vi_run (by with_reducible assumption) (vi_runner _) | exact vi_mTask (by with_reducible assumption) | exact vi_mThing (by with_reducible assumption) | exact vi_mdecl (by with_reducible assumption) | exact vi_mready (by with_reducible assumption)), (by first | with_reducible assumption | exact vi_isIn7 (by with_reducible assumption) | exact vi_isThing (by with_reducible assumption) | exact vi_decl (by with_reducible assumption) | exact vi_ready (by with_reducible assumption) | exact vi_run (by with_reducible assumption) (by with_reducible assumption) | exact vi_run (by with_reducible assumption) (vi_runner _) | exact vi_mTask (by with_reducible assumption) | exact vi_mThing (by with_reducible assumption) | exact vi_mdecl (by with_reducible assumption) | exact vi_mready (by with_reducible assumption))⟩) | exact (fun _ => ⟨vi_latest (by with_reducible assumption) (by with_reducible assumption), vi_run (by with_reducible assumption) (by with_reducible assumption)⟩) | exact (fun _ => (by with_reducible assumption : ¬ v4 = 0 → _) (by with_reducible assumption)) | exact (fun _ => (by first | with_reducible assumption | exact vi_isIn7 (by with_reducible assumption) | exact vi_isThing (by with_reducible assumption) | exact vi_decl (by with_reducible assumption) | exact vi_ready (by with_reducible assumption) | exact vi_run (by with_reducible assumption) (by with_reducible assumption) | exact vi_run (by with_reducible assumption) (vi_runner _) | exact vi_mTask (by with_reducible assumption) | exact vi_mThing (by with_reducible assumption) | exact vi_mdecl (by with_reducible assumption) | exact vi_mready (by with_reducible assumption))) | exact (by first | with_reducible assumption | exact vi_isIn7 (by with_reducible assumption) | exact vi_isThing (by with_reducible assumption) | exact vi_decl (by with_reducible assumption) | exact vi_ready (by with_reducible assumption) | exact vi_run (by with_reducible assumption) (by with_reducible assumption) | exact vi_run (by with_reducible assumption) (vi_runner _) | exact vi_mTask (by with_reducible assumption) | exact vi_mThing (by with_reducible assumption) | exact vi_mdecl (by with_reducible assumption) | exact vi_mready (by with_reducible assumption))) he
          · have he := he.trans (if_neg hc9)
            refine lv_iload_n hx hb d_C_mostUrgent_45 rfl (lv_at hl 2 rfl) ?_
            refine lv_istore_n hx hb d_C_mostUrgent_46 rfl hl (by decide) rfl (fun ls hl => ?_)
            have hl : lv_has ls 3 [(1, .int (nI i)), (0, .ref (ad 0)), (2, .int (nI i))] := hl
            refine lv_iinc (k := 2) (v := (nI (i + 1))) hx hb d_C_mostUrgent_47 hl rfl (by first | rfl | (rw [nI_succ]; rfl)) (by decide) rfl (fun ls hl => ?_)
            have hl : lv_has ls 3 [(2, .int (nI (i + 1))), (1, .int (nI i)), (0, .ref (ad 0))] := hl
            refine lv_goto (tgt := 4) hx hb d_C_mostUrgent_50 (by decide) ?_
            exact ih (i + 1) (nI i) ls (by omega) (lv_sub hl [2, 1, 0] rfl) (by first | with_reducible assumption | exact Or.inl rfl | exact (fun h9 => absurd h9 (by decide)) | exact (fun h9 => absurd rfl h9) | exact vi_runner _ | exact Or.inr (vp_in_nI (by omega) (by decide)) | exact Or.inr (by first | with_reducible assumption | exact vi_isIn7 (by with_reducible assumption) | exact vi_isThing (by with_reducible assumption) | exact vi_decl (by with_reducible assumption) | exact vi_ready (by with_reducible assumption) | exact vi_run (by with_reducible assumption) (by with_reducible assumption) | exact vi_run (by with_reducible assumption) (vi_runner _) | exact vi_mTask (by with_reducible assumption) | exact vi_mThing (by with_reducible assumption) | exact vi_mdecl (by with_reducible assumption) | exact vi_mready (by with_reducible assumption)) | exact (fun _ => ⟨(by first | with_reducible assumption | exact vi_isIn7 (by with_reducible assumption) | exact vi_isThing (by with_reducible assumption) | exact vi_decl (by with_reducible assumption) | exact vi_ready (by with_reducible assumption) | exact vi_run (by with_reducible assumption) (by with_reducible assumption) | exact vi_run (by with_reducible assumption) (vi_runner _) | exact vi_mTask (by with_reducible assumption) | exact vi_mThing (by with_reducible assumption) | exact vi_mdecl (by with_reducible assumption) | exact vi_mready (by with_reducible assumption)), (by first | with_reducible assumption | exact vi_isIn7 (by with_reducible assumption) | exact vi_isThing (by with_reducible assumption) | exact vi_decl (by with_reducible assumption) | exact vi_ready (by with_reducible assumption) | exact vi_run (by with_reducible assumption) (by with_reducible assumption) | exact vi_run (by with_reducible assumption) (vi_runner _) | exact vi_mTask (by with_reducible assumption) | exact vi_mThing (by with_reducible assumption) | exact vi_mdecl (by with_reducible assumption) | exact vi_mready (by with_reducible assumption))⟩) | exact (fun _ => ⟨vi_latest (by with_reducible assumption) (by with_reducible assumption), vi_run (by with_reducible assumption) (by with_reducible assumption)⟩) | exact (fun _ => (by with_reducible assumption : ¬ v4 = 0 → _) (by with_reducible assumption)) | exact (fun _ => (by first | with_reducible assumption | exact vi_isIn7 (by with_reducible assumption) | exact vi_isThing (by with_reducible assumption) | exact vi_decl (by with_reducible assumption) | exact vi_ready (by with_reducible assumption) | exact vi_run (by with_reducible assumption) (by with_reducible assumption) | exact vi_run (by with_reducible assumption) (vi_runner _) | exact vi_mTask (by with_reducible assumption) | exact vi_mThing (by with_reducible assumption) | exact vi_mdecl (by with_reducible assumption) | exact vi_mready (by with_reducible assumption))) | exact (by first | with_reducible assumption | exact vi_isIn7 (by with_reducible assumption) | exact vi_isThing (by with_reducible assumption) | exact vi_decl (by with_reducible assumption) | exact vi_ready (by with_reducible assumption) | exact vi_run (by with_reducible assumption) (by with_reducible assumption) | exact vi_run (by with_reducible assumption) (vi_runner _) | exact vi_mTask (by with_reducible assumption) | exact vi_mThing (by with_reducible assumption) | exact vi_mdecl (by with_reducible assumption) | exact vi_mready (by with_reducible assumption))) he
  have he := f_C_mostUrgent.eq_1 st
  refine lv_iconst (v := (-1)) hx hb d_C_mostUrgent_0 (by decide) ?_
  refine lv_istore_n hx hb d_C_mostUrgent_1 rfl hl (by decide) rfl (fun ls hl => ?_)
  have hl : lv_has ls 3 [(1, .int (-1)), (0, .ref (ad 0))] := hl
  refine lv_iconst (v := 0) hx hb d_C_mostUrgent_2 (by decide) ?_
  refine lv_istore_n hx hb d_C_mostUrgent_3 rfl hl (by decide) rfl (fun ls hl => ?_)
  have hl : lv_has ls 3 [(2, .int 0), (1, .int (-1)), (0, .ref (ad 0))] := hl
  exact L4 8 0 (-1) ls (by first | decide | omega) (lv_sub hl [2, 1, 0] rfl) (by first | with_reducible assumption | exact Or.inl rfl | exact (fun h9 => absurd h9 (by decide)) | exact (fun h9 => absurd rfl h9) | exact vi_runner _ | exact Or.inr (vp_in_nI (by omega) (by decide)) | exact Or.inr (by first | with_reducible assumption | exact vi_isIn7 (by with_reducible assumption) | exact vi_isThing (by with_reducible assumption) | exact vi_decl (by with_reducible assumption) | exact vi_ready (by with_reducible assumption) | exact vi_run (by with_reducible assumption) (by with_reducible assumption) | exact vi_run (by with_reducible assumption) (vi_runner _) | exact vi_mTask (by with_reducible assumption) | exact vi_mThing (by with_reducible assumption) | exact vi_mdecl (by with_reducible assumption) | exact vi_mready (by with_reducible assumption)) | exact (fun _ => ⟨(by first | with_reducible assumption | exact vi_isIn7 (by with_reducible assumption) | exact vi_isThing (by with_reducible assumption) | exact vi_decl (by with_reducible assumption) | exact vi_ready (by with_reducible assumption) | exact vi_run (by with_reducible assumption) (by with_reducible assumption) | exact vi_run (by with_reducible assumption) (vi_runner _) | exact vi_mTask (by with_reducible assumption) | exact vi_mThing (by with_reducible assumption) | exact vi_mdecl (by with_reducible assumption) | exact vi_mready (by with_reducible assumption)), (by first | with_reducible assumption | exact vi_isIn7 (by with_reducible assumption) | exact vi_isThing (by with_reducible assumption) | exact vi_decl (by with_reducible assumption) | exact vi_ready (by with_reducible assumption) | exact vi_run (by with_reducible assumption) (by with_reducible assumption) | exact vi_run (by with_reducible assumption) (vi_runner _) | exact vi_mTask (by with_reducible assumption) | exact vi_mThing (by with_reducible assumption) | exact vi_mdecl (by with_reducible assumption) | exact vi_mready (by with_reducible assumption))⟩) | exact (fun _ => ⟨vi_latest (by with_reducible assumption) (by with_reducible assumption), vi_run (by with_reducible assumption) (by with_reducible assumption)⟩) | exact (fun _ => (by with_reducible assumption : ¬ v4 = 0 → _) (by with_reducible assumption)) | exact (fun _ => (by first | with_reducible assumption | exact vi_isIn7 (by with_reducible assumption) | exact vi_isThing (by with_reducible assumption) | exact vi_decl (by with_reducible assumption) | exact vi_ready (by with_reducible assumption) | exact vi_run (by with_reducible assumption) (by with_reducible assumption) | exact vi_run (by with_reducible assumption) (vi_runner _) | exact vi_mTask (by with_reducible assumption) | exact vi_mThing (by with_reducible assumption) | exact vi_mdecl (by with_reducible assumption) | exact vi_mready (by with_reducible assumption))) | exact (by first | with_reducible assumption | exact vi_isIn7 (by with_reducible assumption) | exact vi_isThing (by with_reducible assumption) | exact vi_decl (by with_reducible assumption) | exact vi_ready (by with_reducible assumption) | exact vi_run (by with_reducible assumption) (by with_reducible assumption) | exact vi_run (by with_reducible assumption) (vi_runner _) | exact vi_mTask (by with_reducible assumption) | exact vi_mThing (by with_reducible assumption) | exact vi_mdecl (by with_reducible assumption) | exact vi_mready (by with_reducible assumption))) he
set_option maxHeartbeats 4000000 in
set_option maxRecDepth 100000 in
theorem c_C_happened (l : Launch) (D : va_G) (cI cT cH : ClassId) (ad : Nat → Nat) (st : St) (p1 : Int32) (p2 : Int32) (p3 : Int32) (hI : ∀ i j, i < 27 → j < 27 → ad i = ad j → i = j) : Met l y_C_happened w_C_happened { frames := 2, cells := 0, slots := 0, locals := 46 } (va_Pc [.ref (ad 0), .int p1, .int p2, .int p3] (gW D cI cT cH (cw cI cT cH ad st))) (qV D (cw cI cT cH ad (f_C_happened st p1 p2 p3)) (inA ad 27)) 0 0 (inA ad 27) := by
  refine Met.ofW (cc := b_C_happened) (maxL := 5) (ret := none) (by decide +kernel) rfl ?_
  intro p e s m args below meth c s₁ B hml hv
  obtain ⟨rfl, hP, hK, hN⟩ := hv
  have hx := B.exec
  have hb := B.bytes
  have hr := B.returns
  have hlocks := B.notSynchronized
  have hts0 := atoms_spec (ws := w_C_happened) B.pre
  have hts : ∀ w ∈ TT, w.before [.ref (ad 0), .int p1, .int p2, .int p3].toArray s = true := fun w h => hts0 w (List.mem_cons_of_mem _ h)
  have hown : s.vm.findClass R_C = some m.cls := findClass_of_methodNamed B.named
  have hS : va_S (inA ad 27) s.heap s.heap [] := va_S.rf
  have hl := lv_entry ([.ref (ad 0), .int p1, .int p2, .int p3]) (n := 5) (Nat.le_of_ble_eq_true rfl)
  rw [lg_entry_eq]
  generalize (lg_sl ([.ref (ad 0), .int p1, .int p2, .int p3]) ++ List.replicate (5 - (lg_sl ([.ref (ad 0), .int p1, .int p2, .int p3])).length) Slot.unset).toArray = ls at hl ⊢
  have hl : lv_has ls 5 [(0, .ref (ad 0)), (1, .int p1), (2, .int p2), (3, .int p3)] := hl
  have J53 : ∀ (x1 : Int32) (x2 : Int32) (sl : St) (H : Heap) (locs : List Loc) (ls : Array Slot), lv_has ls 5 [(0, .ref (ad 0))] → va_P D cls9 (cw cI cT cH ad sl) H → va_S (inA ad 27) s.heap H locs → f_C_happened st p1 p2 p3 = f_C_happened_B53 sl x1 x2 → W p l e (headSpec w_C_happened { frames := 2, cells := 0, slots := 0, locals := 46 }).room s m [.ref (ad 0), .int p1, .int p2, .int p3].toArray below meth c H locs 0 0 (MQ below (qV D (cw cI cT cH ad (f_C_happened st p1 p2 p3)) (inA ad 27)) [.ref (ad 0), .int p1, .int p2, .int p3].toArray s 0 0 (inA ad 27)) (F0 m 53 ls [.int x2, .int x1, .ref (ad 3)]) := by
    intro x1 x2 sl H locs ls hl hP hS he
    rw [f_C_happened_B53] at he
    refine lv_bipush (v := 15) hx hb d_C_happened_53 (by decide) ?_
    refine lv_aload_n hx hb d_C_happened_55 rfl (lv_at hl 0 rfl) ?_
    refine va_get (D := D) (ci := 0) (v := .int (sl 0 4)) (C := R_C) (T := F_C) (N := 7) hx hb hts in_C hown hK hP 0 cw_0 rfl 4 (by decide) (hts _ k_133) (fun _ h9 => h9) rfl d_C_happened_56 ?_
    refine wcV (As := [.int x1, .int x2, .int 15, .int (sl 0 4)]) (rest := []) (na := 4) (c_N_write l D cI cT cH ad sl x1 x2 15 (sl 0 4) hI) ⟨hx, hb, hml, hown, hts⟩ k_377 k_378 k_379 k_25 k_380 (by decide +kernel) (by decide) (by decide) hP hK hN (q0 := 3) (ci := 3) cw_3 rfl hS rfl hl.1 rfl (Nat.le_of_ble_eq_true rfl) d_C_happened_59 (fun H locs hP hS => ?_)
    generalize hw2 : f_N_write sl x1 x2 15 (sl 0 4) = sw1 at hP he
    refine W.eq (g2 := F0 m 62 ls []) rfl ?_
    exact W.vret hx hb hr (fun t ht _ => ⟨⟨(), rfl, trivial, (by rw [he]; show va_P _ _ _ t.heap; rw [ht]; exact hP)⟩, hS.F ht⟩) hS.2.2 d_C_happened_62
  have he := f_C_happened.eq_1 st p1 p2 p3
  refine lv_aload_n hx hb d_C_happened_0 rfl (lv_at hl 0 rfl) ?_
  refine va_get (D := D) (ci := 0) (v := .ref (ad 3)) (C := R_C) (T := F_C) (N := 7) hx hb hts in_C hown hK hP 0 cw_0 rfl 2 (by decide) (hts _ k_131) (fun _ h9 => h9) rfl d_C_happened_1 ?_
  refine lv_iload_n hx hb d_C_happened_4 rfl (lv_at hl 1 rfl) ?_
  refine lv_iload_n hx hb d_C_happened_5 rfl (lv_at hl 2 rfl) ?_
  refine lv_iload_n hx hb d_C_happened_6 rfl (lv_at hl 3 rfl) ?_
  refine lv_aload_n hx hb d_C_happened_7 rfl (lv_at hl 0 rfl) ?_
  refine va_get (D := D) (ci := 0) (v := .int (st 0 4)) (C := R_C) (T := F_C) (N := 7) hx hb hts in_C hown hK hP 0 cw_0 rfl 4 (by decide) (hts _ k_133) (fun _ h9 => h9) rfl d_C_happened_8 ?_
  refine wcV (As := [.int p1, .int p2, .int p3, .int (st 0 4)]) (rest := []) (na := 4) (c_N_write l D cI cT cH ad st p1 p2 p3 (st 0 4) hI) ⟨hx, hb, hml, hown, hts⟩ k_377 k_378 k_379 k_25 k_380 (by decide +kernel) (by decide) (by decide) hP hK hN (q0 := 3) (ci := 3) cw_3 rfl hS rfl hl.1 rfl (Nat.le_of_ble_eq_true rfl) d_C_happened_11 (fun H locs hP hS => ?_)
  generalize hw4 : f_N_write st p1 p2 p3 (st 0 4) = sw3 at hP he
  refine W.eq (g2 := F0 m 14 ls []) rfl ?_
  rw [f_C_happened_S14] at he
  refine lv_aload_n hx hb d_C_happened_14 rfl (lv_at hl 0 rfl) ?_
  refine rdV (As := []) (rest := []) (na := 0) (c_C_mostUrgent l D cI cT cH ad sw3  ) ⟨hx, hb, hml, hown, hts⟩ k_382 k_384 k_9 k_24 k_385 (by decide +kernel) (by decide) (by decide) hP hK hN (q0 := 0) (ci := 0) cw_0 rfl rfl hl.1 rfl (Nat.le_of_ble_eq_true rfl) d_C_happened_15 ?_
  refine lv_istore hx hb d_C_happened_18 hl (by decide) rfl (fun ls hl => ?_)
  have hl : lv_has ls 5 [(4, .int (f_C_mostUrgent sw3)), (0, .ref (ad 0)), (1, .int p1), (2, .int p2), (3, .int p3)] := hl
  refine lv_iload hx hb d_C_happened_20 (lv_at hl 0 rfl) ?_
  refine lv_aload_n hx hb d_C_happened_22 rfl (lv_at hl 1 rfl) ?_
  refine va_get (D := D) (ci := 0) (v := .int (sw3 0 6)) (C := R_C) (T := F_C) (N := 7) hx hb hts in_C hown hK hP 0 cw_0 rfl 6 (by decide) (hts _ k_135) (fun _ h9 => h9) rfl d_C_happened_23 ?_
  refine lv_icmp_eq (tgt := 62) hx hb d_C_happened_26 (by decide) (fun hc5 => ?_) (fun hc5 => ?_)
  · have he := he.trans (if_pos hc5)
    exact W.vret hx hb hr (fun t ht _ => ⟨⟨(), rfl, trivial, (by rw [he]; show va_P _ _ _ t.heap; rw [ht]; exact hP)⟩, hS.F ht⟩) hS.2.2 d_C_happened_62
  · have he := he.trans (if_neg hc5)
    refine lv_aload_n hx hb d_C_happened_29 rfl (lv_at hl 1 rfl) ?_
    refine lv_iload hx hb d_C_happened_30 (lv_at hl 0 rfl) ?_
    refine va_put (D := D) (ci := 0) (v := .int (f_C_mostUrgent sw3)) (ty := .int) (C := R_C) (T := F_C) (N := 7) hx hb hts in_C ft_C ft_C_ok n_C hown hK hP (cw_D hI) hS 0 cw_0 rfl 6 (by decide) (hts _ k_135) (fun _ h9 => h9) rfl (by decide +kernel) rfl rfl (Nat.le_of_ble_eq_true rfl) d_C_happened_32 (fun H locs hP _ hS => ?_)
    rw [cp_0 (k := 6) (by decide)] at hP
    generalize hw7 : wr sw3 0 6 (f_C_mostUrgent sw3) = sw6 at hP he
    refine W.eq (g2 := F0 m 35 ls []) rfl ?_
    rw [f_C_happened_S35] at he
    refine lv_aload_n hx hb d_C_happened_35 rfl (lv_at hl 1 rfl) ?_
    refine va_get (D := D) (ci := 0) (v := .ref (ad 3)) (C := R_C) (T := F_C) (N := 7) hx hb hts in_C hown hK hP 0 cw_0 rfl 2 (by decide) (hts _ k_131) (fun _ h9 => h9) rfl d_C_happened_36 ?_
    refine lv_iconst (v := 5) hx hb d_C_happened_39 (by decide) ?_
    refine lv_iload hx hb d_C_happened_40 (lv_at hl 0 rfl) ?_
    refine lv_iconst (v := (-1)) hx hb d_C_happened_42 (by decide) ?_
    refine lv_icmp_ne (tgt := 51) hx hb d_C_happened_43 (by decide) (fun hc8 => ?_) (fun hc8 => ?_)
    · have he := he.trans (if_neg hc8)
      refine lv_iload hx hb d_C_happened_51 (lv_at hl 0 rfl) ?_
      exact J53 5 (f_C_mostUrgent sw3) sw6 H locs ls (lv_sub hl [1] rfl) hP hS he
    · have he := he.trans (if_pos hc8)
      refine lv_bipush (v := 8) hx hb d_C_happened_46 (by decide) ?_
      refine lv_goto (tgt := 53) hx hb d_C_happened_48 (by decide) ?_
      exact J53 5 8 sw6 H locs ls (lv_sub hl [1] rfl) hP hS he
set_option maxHeartbeats 4000000 in
set_option maxRecDepth 100000 in
theorem c_C_delayMoreUrgentThan (l : Launch) (D : va_G) (cI cT cH : ClassId) (ad : Nat → Nat) (st : St) (p1 : Int32) (p2 : Int32) (hI : ∀ i j, i < 27 → j < 27 → ad i = ad j → i = j) : Met l y_C_delayMoreUrgentThan w_C_delayMoreUrgentThan { frames := 0, cells := 0, slots := 0, locals := 0 } (va_Pc [.ref (ad 0), .int p1, .int p2] (gW D cI cT cH (cw cI cT cH ad st))) (qV D (cw cI cT cH ad (f_C_delayMoreUrgentThan st p1 p2)) (inA ad 27)) 0 0 (inA ad 27) := by
  refine Met.ofW (cc := b_C_delayMoreUrgentThan) (maxL := 4) (ret := none) (by decide +kernel) rfl ?_
  intro p e s m args below meth c s₁ B hml hv
  obtain ⟨rfl, hP, hK, hN⟩ := hv
  have hx := B.exec
  have hb := B.bytes
  have hr := B.returns
  have hlocks := B.notSynchronized
  have hts0 := atoms_spec (ws := w_C_delayMoreUrgentThan) B.pre
  have hts : ∀ w ∈ TT, w.before [.ref (ad 0), .int p1, .int p2].toArray s = true := fun w h => hts0 w (List.mem_cons_of_mem _ h)
  have hown : s.vm.findClass R_C = some m.cls := findClass_of_methodNamed B.named
  have hS : va_S (inA ad 27) s.heap s.heap [] := va_S.rf
  have hl := lv_entry ([.ref (ad 0), .int p1, .int p2]) (n := 4) (Nat.le_of_ble_eq_true rfl)
  rw [lg_entry_eq]
  generalize (lg_sl ([.ref (ad 0), .int p1, .int p2]) ++ List.replicate (4 - (lg_sl ([.ref (ad 0), .int p1, .int p2])).length) Slot.unset).toArray = ls at hl ⊢
  have hl : lv_has ls 4 [(0, .ref (ad 0)), (1, .int p1), (2, .int p2)] := hl
  have L2 : ∀ (n i : Nat) (sl : St) (H : Heap) (locs : List Loc) (ls : Array Slot), i + n = 8 → lv_has ls 4 [(0, .ref (ad 0)), (1, .int p1), (2, .int p2), (3, .int (nI i))] → va_P D cls9 (cw cI cT cH ad sl) H → va_S (inA ad 27) s.heap H locs → f_C_delayMoreUrgentThan st p1 p2 = f_C_delayMoreUrgentThan_L2 n i sl p1 p2 → W p l e (headSpec w_C_delayMoreUrgentThan { frames := 0, cells := 0, slots := 0, locals := 0 }).room s m [.ref (ad 0), .int p1, .int p2].toArray below meth c H locs 0 0 (MQ below (qV D (cw cI cT cH ad (f_C_delayMoreUrgentThan st p1 p2)) (inA ad 27)) [.ref (ad 0), .int p1, .int p2].toArray s 0 0 (inA ad 27)) (F0 m 2 ls []) := by
    intro n
    induction n with
    | zero =>
      intro i sl H locs ls hcnt hl hP hS he
      have hz : i = 8 := by omega
      subst hz
      rw [f_C_delayMoreUrgentThan_L2] at he
      refine lv_iload_n hx hb d_C_delayMoreUrgentThan_2 rfl (lv_at hl 3 rfl) ?_
      refine lv_bipush (v := 8) hx hb d_C_delayMoreUrgentThan_3 (by decide) ?_
      refine lv_icmp_ge (tgt := 54) hx hb d_C_delayMoreUrgentThan_5 (by decide) (fun _ => ?_) (fun h9 => absurd (by decide) h9)
      exact W.vret hx hb hr (fun t ht _ => ⟨⟨(), rfl, trivial, (by rw [he]; show va_P _ _ _ t.heap; rw [ht]; exact hP)⟩, hS.F ht⟩) hS.2.2 d_C_delayMoreUrgentThan_54
    | succ n ih =>
      intro i sl H locs ls hcnt hl hP hS he
      have hi8 : i < 8 := by omega
      rw [f_C_delayMoreUrgentThan_L2] at he
      refine lv_iload_n hx hb d_C_delayMoreUrgentThan_2 rfl (lv_at hl 3 rfl) ?_
      refine lv_bipush (v := 8) hx hb d_C_delayMoreUrgentThan_3 (by decide) ?_
      refine lv_icmp_ge (tgt := 54) hx hb d_C_delayMoreUrgentThan_5 (by decide) (fun h9 => absurd h9 (nlt_8 hi8)) (fun _ => ?_)
      refine lv_aload_n hx hb d_C_delayMoreUrgentThan_8 rfl (lv_at hl 0 rfl) ?_
      refine va_get (D := D) (ci := 0) (v := .ref (ad 1)) (C := R_C) (T := F_C) (N := 7) hx hb hts in_C hown hK hP 0 cw_0 rfl 0 (by decide) (hts _ k_129) (fun _ h9 => h9) rfl d_C_delayMoreUrgentThan_9 ?_
      refine lv_iload_n hx hb d_C_delayMoreUrgentThan_12 rfl (lv_at hl 3 rfl) ?_
      have hi1 : vp_in (nI i) 8 := (vp_in_nI (by omega) (by decide))
      refine va_aldq hx hb hK hP 1 1 cw_1 rfl hi1 d_C_delayMoreUrgentThan_13 ?_
      have hj2 : (nI i).toNatClampNeg < 8 := vi_lt hi1
      rw [show (nI i).toNatClampNeg = i from nI_clamp (by omega)]
      rw [show (nI i).toNatClampNeg = i from nI_clamp (by omega)] at hj2
      refine W.eq (g2 := F0 m 14 ls [.ref (ad (5 + 2 * i))]) rfl ?_
      refine va_getN (D := D) (ci := 1) (v := .int (sl (5 + 2 * i) 4)) (C := R_T) (T := F_T) (N := 10) hx hb hts in_T hown hK hP (5 + 2 * i) (cw_k hj2) rfl 4 (by decide) (va_Nw.use rfl (hN _ nk_C_146)) (fun _ h9 => h9) rfl d_C_delayMoreUrgentThan_14 ?_
      refine lv_if_eq (tgt := 48) hx hb d_C_delayMoreUrgentThan_17 (by decide) (fun hc3 => ?_) (fun hc3 => ?_)
      · have he := he.trans (if_pos hc3)
        refine lv_iinc (k := 3) (v := (nI (i + 1))) hx hb d_C_delayMoreUrgentThan_48 hl rfl (by first | rfl | (rw [nI_succ]; rfl)) (by decide) rfl (fun ls hl => ?_)
        have hl : lv_has ls 4 [(3, .int (nI (i + 1))), (0, .ref (ad 0)), (1, .int p1), (2, .int p2)] := hl
        refine lv_goto (tgt := 2) hx hb d_C_delayMoreUrgentThan_51 (by decide) ?_
        exact ih (i + 1) sl H locs ls (by omega) (lv_sub hl [1, 2, 3, 0] rfl) hP hS he
      · have he := he.trans (if_neg hc3)
        refine lv_aload_n hx hb d_C_delayMoreUrgentThan_20 rfl (lv_at hl 0 rfl) ?_
        refine va_get (D := D) (ci := 0) (v := .ref (ad 1)) (C := R_C) (T := F_C) (N := 7) hx hb hts in_C hown hK hP 0 cw_0 rfl 0 (by decide) (hts _ k_129) (fun _ h9 => h9) rfl d_C_delayMoreUrgentThan_21 ?_
        refine lv_iload_n hx hb d_C_delayMoreUrgentThan_24 rfl (lv_at hl 3 rfl) ?_
        have hi4 : vp_in (nI i) 8 := (vp_in_nI (by omega) (by decide))
        refine va_aldq hx hb hK hP 1 1 cw_1 rfl hi4 d_C_delayMoreUrgentThan_25 ?_
        have hj5 : (nI i).toNatClampNeg < 8 := vi_lt hi4
        rw [show (nI i).toNatClampNeg = i from nI_clamp (by omega)]
        rw [show (nI i).toNatClampNeg = i from nI_clamp (by omega)] at hj5
        refine W.eq (g2 := F0 m 26 ls [.ref (ad (5 + 2 * i))]) rfl ?_
        refine va_getN (D := D) (ci := 1) (v := .int (sl (5 + 2 * i) 0)) (C := R_T) (T := F_T) (N := 10) hx hb hts in_T hown hK hP (5 + 2 * i) (cw_k hj5) rfl 0 (by decide) (va_Nw.use rfl (hN _ nk_C_64)) (fun _ h9 => h9) rfl d_C_delayMoreUrgentThan_26 ?_
        refine lv_iload_n hx hb d_C_delayMoreUrgentThan_29 rfl (lv_at hl 1 rfl) ?_
        refine lv_icmp_le (tgt := 48) hx hb d_C_delayMoreUrgentThan_30 (by decide) (fun hc6 => ?_) (fun hc6 => ?_)
        · have he := he.trans (if_pos hc6)
          refine lv_iinc (k := 3) (v := (nI (i + 1))) hx hb d_C_delayMoreUrgentThan_48 hl rfl (by first | rfl | (rw [nI_succ]; rfl)) (by decide) rfl (fun ls hl => ?_)
          have hl : lv_has ls 4 [(3, .int (nI (i + 1))), (0, .ref (ad 0)), (1, .int p1), (2, .int p2)] := hl
          refine lv_goto (tgt := 2) hx hb d_C_delayMoreUrgentThan_51 (by decide) ?_
          exact ih (i + 1) sl H locs ls (by omega) (lv_sub hl [1, 2, 3, 0] rfl) hP hS he
        · have he := he.trans (if_neg hc6)
          refine lv_aload_n hx hb d_C_delayMoreUrgentThan_33 rfl (lv_at hl 0 rfl) ?_
          refine va_get (D := D) (ci := 0) (v := .ref (ad 1)) (C := R_C) (T := F_C) (N := 7) hx hb hts in_C hown hK hP 0 cw_0 rfl 0 (by decide) (hts _ k_129) (fun _ h9 => h9) rfl d_C_delayMoreUrgentThan_34 ?_
          refine lv_iload_n hx hb d_C_delayMoreUrgentThan_37 rfl (lv_at hl 3 rfl) ?_
          have hi7 : vp_in (nI i) 8 := (vp_in_nI (by omega) (by decide))
          refine va_aldq hx hb hK hP 1 1 cw_1 rfl hi7 d_C_delayMoreUrgentThan_38 ?_
          have hj8 : (nI i).toNatClampNeg < 8 := vi_lt hi7
          rw [show (nI i).toNatClampNeg = i from nI_clamp (by omega)]
          rw [show (nI i).toNatClampNeg = i from nI_clamp (by omega)] at hj8
          refine W.eq (g2 := F0 m 39 ls [.ref (ad (5 + 2 * i))]) rfl ?_
          refine lv_dup hx hb d_C_delayMoreUrgentThan_39 rfl ?_
          refine va_getN (D := D) (ci := 1) (v := .int (sl (5 + 2 * i) 9)) (C := R_T) (T := F_T) (N := 10) hx hb hts in_T hown hK hP (5 + 2 * i) (cw_k hj8) rfl 9 (by decide) (va_Nw.use rfl (hN _ nk_C_162)) (fun _ h9 => h9) rfl d_C_delayMoreUrgentThan_40 ?_
          refine lv_iload_n hx hb d_C_delayMoreUrgentThan_43 rfl (lv_at hl 2 rfl) ?_
          refine lv_iadd hx hb d_C_delayMoreUrgentThan_44 ?_
          refine va_putN (D := D) (ci := 1) (v := .int ((sl (5 + 2 * i) 9) + p2)) (ty := .int) (C := R_T) (T := F_T) (N := 10) hx hb hts in_T ft_T ft_T_ok n_T hown hK hP (cw_D hI) hS (5 + 2 * i) (cw_k hj8) rfl 9 (by decide) (va_Nw.use rfl (hN _ nk_C_162)) (fun _ h9 => h9) rfl (by decide +kernel) rfl rfl (Nat.le_of_ble_eq_true rfl) d_C_delayMoreUrgentThan_45 (fun H locs hP _ hS => ?_)
          rw [cp_k (k := 9) hj8 (by decide) (by decide)] at hP
          generalize hw10 : wr sl (5 + 2 * i) 9 ((sl (5 + 2 * i) 9) + p2) = sw9 at hP he
          refine W.eq (g2 := F0 m 48 ls []) rfl ?_
          refine lv_iinc (k := 3) (v := (nI (i + 1))) hx hb d_C_delayMoreUrgentThan_48 hl rfl (by first | rfl | (rw [nI_succ]; rfl)) (by decide) rfl (fun ls hl => ?_)
          have hl : lv_has ls 4 [(3, .int (nI (i + 1))), (0, .ref (ad 0)), (1, .int p1), (2, .int p2)] := hl
          refine lv_goto (tgt := 2) hx hb d_C_delayMoreUrgentThan_51 (by decide) ?_
          exact ih (i + 1) sw9 H locs ls (by omega) (lv_sub hl [1, 2, 3, 0] rfl) hP hS he
  have he := f_C_delayMoreUrgentThan.eq_1 st p1 p2
  refine lv_iconst (v := 0) hx hb d_C_delayMoreUrgentThan_0 (by decide) ?_
  refine lv_istore_n hx hb d_C_delayMoreUrgentThan_1 rfl hl (by decide) rfl (fun ls hl => ?_)
  have hl : lv_has ls 4 [(3, .int 0), (0, .ref (ad 0)), (1, .int p1), (2, .int p2)] := hl
  exact L2 8 0 st s.heap [] ls (by first | decide | omega) (lv_sub hl [1, 2, 3, 0] rfl) hP hS he
set_option maxHeartbeats 4000000 in
set_option maxRecDepth 100000 in
theorem c_C_longestUseOfCeiling (l : Launch) (D : va_G) (cI cT cH : ClassId) (ad : Nat → Nat) (st : St) (j1 : Nat) (p2 : Int32) (hj1 : j1 < 8) : Met l y_C_longestUseOfCeiling w_C_longestUseOfCeiling { frames := 1, cells := 0, slots := 0, locals := 21 } (va_Pc [.ref (ad 0), .ref (ad (5 + 2 * j1)), .int p2] (gW D cI cT cH (cw cI cT cH ad st))) (QcRead (f_C_longestUseOfCeiling st j1 p2)) 0 0 (fun _ => False) := by
  refine Met.ofW (cc := b_C_longestUseOfCeiling) (maxL := 5) (ret := (some .int)) (by decide +kernel) rfl ?_
  intro p e s m args below meth c s₁ B hml hv
  obtain ⟨rfl, hP, hK, hN⟩ := hv
  have hx := B.exec
  have hb := B.bytes
  have hr := B.returns
  have hlocks := B.notSynchronized
  have hts0 := atoms_spec (ws := w_C_longestUseOfCeiling) B.pre
  have hts : ∀ w ∈ TT, w.before [.ref (ad 0), .ref (ad (5 + 2 * j1)), .int p2].toArray s = true := fun w h => hts0 w (List.mem_cons_of_mem _ h)
  have hown : s.vm.findClass R_C = some m.cls := findClass_of_methodNamed B.named
  have hl := lv_entry ([.ref (ad 0), .ref (ad (5 + 2 * j1)), .int p2]) (n := 5) (Nat.le_of_ble_eq_true rfl)
  rw [lg_entry_eq]
  generalize (lg_sl ([.ref (ad 0), .ref (ad (5 + 2 * j1)), .int p2]) ++ List.replicate (5 - (lg_sl ([.ref (ad 0), .ref (ad (5 + 2 * j1)), .int p2])).length) Slot.unset).toArray = ls at hl ⊢
  have hl : lv_has ls 5 [(0, .ref (ad 0)), (1, .ref (ad (5 + 2 * j1))), (2, .int p2)] := hl
  have L5 : ∀ (n i : Nat) (v3 : Int32) (ls : Array Slot), i + n = 6 → lv_has ls 5 [(0, .ref (ad 0)), (1, .ref (ad (5 + 2 * j1))), (2, .int p2), (3, .int v3), (4, .int (nI i))] → f_C_longestUseOfCeiling st j1 p2 = f_C_longestUseOfCeiling_L5 n i st j1 p2 v3 → W p l e (headSpec w_C_longestUseOfCeiling { frames := 1, cells := 0, slots := 0, locals := 21 }).room s m [.ref (ad 0), .ref (ad (5 + 2 * j1)), .int p2].toArray below meth c s.heap [] 0 0 (MQ below (QcRead (f_C_longestUseOfCeiling st j1 p2)) [.ref (ad 0), .ref (ad (5 + 2 * j1)), .int p2].toArray s 0 0 (fun _ => False)) (F0 m 5 ls []) := by
    intro n
    induction n with
    | zero =>
      intro i v3 ls hcnt hl he
      have hz : i = 6 := by omega
      subst hz
      rw [f_C_longestUseOfCeiling_L5] at he
      refine lv_iload hx hb d_C_longestUseOfCeiling_5 (lv_at hl 4 rfl) ?_
      refine lv_bipush (v := 6) hx hb d_C_longestUseOfCeiling_7 (by decide) ?_
      refine lv_icmp_ge (tgt := 44) hx hb d_C_longestUseOfCeiling_9 (by decide) (fun _ => ?_) (fun h9 => absurd (by decide) h9)
      refine lv_iload_n hx hb d_C_longestUseOfCeiling_44 rfl (lv_at hl 3 rfl) ?_
      exact W.iret (v := v3) hx hb hr (fun t ht _ => ⟨by rw [he], ht⟩) (fun _ h => nomatch h) d_C_longestUseOfCeiling_45
    | succ n ih =>
      intro i v3 ls hcnt hl he
      have hi8 : i < 6 := by omega
      rw [f_C_longestUseOfCeiling_L5] at he
      refine lv_iload hx hb d_C_longestUseOfCeiling_5 (lv_at hl 4 rfl) ?_
      refine lv_bipush (v := 6) hx hb d_C_longestUseOfCeiling_7 (by decide) ?_
      refine lv_icmp_ge (tgt := 44) hx hb d_C_longestUseOfCeiling_9 (by decide) (fun h9 => absurd h9 (nlt_6 hi8)) (fun _ => ?_)
      refine lv_aload_n hx hb d_C_longestUseOfCeiling_12 rfl (lv_at hl 0 rfl) ?_
      refine va_get (D := D) (ci := 0) (v := .ref (ad 2)) (C := R_C) (T := F_C) (N := 7) hx hb hts in_C hown hK hP 0 cw_0 rfl 1 (by decide) (hts _ k_130) (fun _ h9 => h9) rfl d_C_longestUseOfCeiling_13 ?_
      refine lv_iload hx hb d_C_longestUseOfCeiling_16 (lv_at hl 4 rfl) ?_
      have hi1 : vp_in (nI i) 6 := (vp_in_nI (by omega) (by decide))
      refine va_aldq hx hb hK hP 2 2 cw_2 rfl hi1 d_C_longestUseOfCeiling_18 ?_
      have hj2 : (nI i).toNatClampNeg < 6 := vi_lt hi1
      rw [show (nI i).toNatClampNeg = i from nI_clamp (by omega)]
      rw [show (nI i).toNatClampNeg = i from nI_clamp (by omega)] at hj2
      refine W.eq (g2 := F0 m 19 ls [.ref (ad (21 + i))]) rfl ?_
      refine va_getN (D := D) (ci := 2) (v := .int (st (21 + i) 0)) (C := R_H) (T := F_H) (N := 4) hx hb hts in_H hown hK hP (21 + i) (cw_h hj2) rfl 0 (by decide) (va_Nw.use rfl (hN _ nk_C_87)) (fun _ h9 => h9) rfl d_C_longestUseOfCeiling_19 ?_
      refine lv_iload_n hx hb d_C_longestUseOfCeiling_22 rfl (lv_at hl 2 rfl) ?_
      refine lv_icmp_lt (tgt := 38) hx hb d_C_longestUseOfCeiling_23 (by decide) (fun hc3 => ?_) (fun hc3 => ?_)
      · have he := he.trans (if_pos hc3)
        refine lv_iinc (k := 4) (v := (nI (i + 1))) hx hb d_C_longestUseOfCeiling_38 hl rfl (by first | rfl | (rw [nI_succ]; rfl)) (by decide) rfl (fun ls hl => ?_)
        have hl : lv_has ls 5 [(4, .int (nI (i + 1))), (0, .ref (ad 0)), (1, .ref (ad (5 + 2 * j1))), (2, .int p2), (3, .int v3)] := hl
        refine lv_goto (tgt := 5) hx hb d_C_longestUseOfCeiling_41 (by decide) ?_
        exact ih (i + 1) v3 ls (by omega) (lv_sub hl [1, 2, 3, 4, 0] rfl) he
      · have he := he.trans (if_neg hc3)
        refine lv_iload_n hx hb d_C_longestUseOfCeiling_26 rfl (lv_at hl 3 rfl) ?_
        refine lv_aload_n hx hb d_C_longestUseOfCeiling_27 rfl (lv_at hl 1 rfl) ?_
        refine va_getN (D := D) (ci := 1) (v := .ref (ad (5 + 2 * j1 + 1))) (C := R_T) (T := F_T) (N := 10) hx hb hts in_T hown hK hP (5 + 2 * j1) (cw_k hj1) rfl 3 (by decide) (va_Nw.use rfl (hN _ nk_C_79)) (fun _ h9 => h9) rfl d_C_longestUseOfCeiling_28 ?_
        refine lv_iload hx hb d_C_longestUseOfCeiling_31 (lv_at hl 4 rfl) ?_
        have hi4 : vp_in (nI i) 6 := (vp_in_nI (by omega) (by decide))
        refine va_iald hx hb hK hP (5 + 2 * j1 + 1) 0 (cw_l hj1) rfl hi4 d_C_longestUseOfCeiling_33 ?_
        rw [show (nI i).toNatClampNeg = i from nI_clamp (by omega)]
        refine W.eq (g2 := F0 m 34 ls [.int (st (5 + 2 * j1 + 1) i), .int v3]) rfl ?_
        refine va_mmax hx hb (hml.trans hl.1.symm) hown (hts _ k_209) (hts _ k_210) (hts _ k_34) (hts _ k_211) (Nat.le_of_ble_eq_true rfl) (Nat.le_of_ble_eq_true rfl) (Nat.le_of_ble_eq_true rfl) (Nat.le_of_ble_eq_true rfl) d_C_longestUseOfCeiling_34 ?_
        refine W.eq (g2 := F0 m 37 ls [.int (imax v3 (st (5 + 2 * j1 + 1) i))]) rfl ?_
        refine lv_istore_n hx hb d_C_longestUseOfCeiling_37 rfl hl (by decide) rfl (fun ls hl => ?_)
        have hl : lv_has ls 5 [(3, .int (imax v3 (st (5 + 2 * j1 + 1) i))), (0, .ref (ad 0)), (1, .ref (ad (5 + 2 * j1))), (2, .int p2), (4, .int (nI i))] := hl
        refine lv_iinc (k := 4) (v := (nI (i + 1))) hx hb d_C_longestUseOfCeiling_38 hl rfl (by first | rfl | (rw [nI_succ]; rfl)) (by decide) rfl (fun ls hl => ?_)
        have hl : lv_has ls 5 [(4, .int (nI (i + 1))), (3, .int (imax v3 (st (5 + 2 * j1 + 1) i))), (0, .ref (ad 0)), (1, .ref (ad (5 + 2 * j1))), (2, .int p2)] := hl
        refine lv_goto (tgt := 5) hx hb d_C_longestUseOfCeiling_41 (by decide) ?_
        exact ih (i + 1) (imax v3 (st (5 + 2 * j1 + 1) i)) ls (by omega) (lv_sub hl [2, 3, 4, 1, 0] rfl) he
  have he := f_C_longestUseOfCeiling.eq_1 st j1 p2
  refine lv_iconst (v := 0) hx hb d_C_longestUseOfCeiling_0 (by decide) ?_
  refine lv_istore_n hx hb d_C_longestUseOfCeiling_1 rfl hl (by decide) rfl (fun ls hl => ?_)
  have hl : lv_has ls 5 [(3, .int 0), (0, .ref (ad 0)), (1, .ref (ad (5 + 2 * j1))), (2, .int p2)] := hl
  refine lv_iconst (v := 0) hx hb d_C_longestUseOfCeiling_2 (by decide) ?_
  refine lv_istore hx hb d_C_longestUseOfCeiling_3 hl (by decide) rfl (fun ls hl => ?_)
  have hl : lv_has ls 5 [(4, .int 0), (3, .int 0), (0, .ref (ad 0)), (1, .ref (ad (5 + 2 * j1))), (2, .int p2)] := hl
  exact L5 6 0 0 ls (by first | decide | omega) (lv_sub hl [2, 3, 4, 1, 0] rfl) he
set_option maxHeartbeats 4000000 in
set_option maxRecDepth 100000 in
theorem c_C_longestBlockingAt (l : Launch) (D : va_G) (cI cT cH : ClassId) (ad : Nat → Nat) (st : St) (p1 : Int32) : Met l y_C_longestBlockingAt w_C_longestBlockingAt { frames := 2, cells := 0, slots := 0, locals := 45 } (va_Pc [.ref (ad 0), .int p1] (gW D cI cT cH (cw cI cT cH ad st))) (QcRead (f_C_longestBlockingAt st p1)) 0 0 (fun _ => False) := by
  refine Met.ofW (cc := b_C_longestBlockingAt) (maxL := 4) (ret := (some .int)) (by decide +kernel) rfl ?_
  intro p e s m args below meth c s₁ B hml hv
  obtain ⟨rfl, hP, hK, hN⟩ := hv
  have hx := B.exec
  have hb := B.bytes
  have hr := B.returns
  have hlocks := B.notSynchronized
  have hts0 := atoms_spec (ws := w_C_longestBlockingAt) B.pre
  have hts : ∀ w ∈ TT, w.before [.ref (ad 0), .int p1].toArray s = true := fun w h => hts0 w (List.mem_cons_of_mem _ h)
  have hown : s.vm.findClass R_C = some m.cls := findClass_of_methodNamed B.named
  have hl := lv_entry ([.ref (ad 0), .int p1]) (n := 4) (Nat.le_of_ble_eq_true rfl)
  rw [lg_entry_eq]
  generalize (lg_sl ([.ref (ad 0), .int p1]) ++ List.replicate (4 - (lg_sl ([.ref (ad 0), .int p1])).length) Slot.unset).toArray = ls at hl ⊢
  have hl : lv_has ls 4 [(0, .ref (ad 0)), (1, .int p1)] := hl
  have L4 : ∀ (n i : Nat) (v2 : Int32) (ls : Array Slot), i + n = 8 → lv_has ls 4 [(0, .ref (ad 0)), (1, .int p1), (2, .int v2), (3, .int (nI i))] → f_C_longestBlockingAt st p1 = f_C_longestBlockingAt_L4 n i st p1 v2 → W p l e (headSpec w_C_longestBlockingAt { frames := 2, cells := 0, slots := 0, locals := 45 }).room s m [.ref (ad 0), .int p1].toArray below meth c s.heap [] 0 0 (MQ below (QcRead (f_C_longestBlockingAt st p1)) [.ref (ad 0), .int p1].toArray s 0 0 (fun _ => False)) (F0 m 4 ls []) := by
    intro n
    induction n with
    | zero =>
      intro i v2 ls hcnt hl he
      have hz : i = 8 := by omega
      subst hz
      rw [f_C_longestBlockingAt_L4] at he
      refine lv_iload_n hx hb d_C_longestBlockingAt_4 rfl (lv_at hl 3 rfl) ?_
      refine lv_bipush (v := 8) hx hb d_C_longestBlockingAt_5 (by decide) ?_
      refine lv_icmp_ge (tgt := 45) hx hb d_C_longestBlockingAt_7 (by decide) (fun _ => ?_) (fun h9 => absurd (by decide) h9)
      refine lv_iload_n hx hb d_C_longestBlockingAt_45 rfl (lv_at hl 2 rfl) ?_
      exact W.iret (v := v2) hx hb hr (fun t ht _ => ⟨by rw [he], ht⟩) (fun _ h => nomatch h) d_C_longestBlockingAt_46
    | succ n ih =>
      intro i v2 ls hcnt hl he
      have hi8 : i < 8 := by omega
      rw [f_C_longestBlockingAt_L4] at he
      refine lv_iload_n hx hb d_C_longestBlockingAt_4 rfl (lv_at hl 3 rfl) ?_
      refine lv_bipush (v := 8) hx hb d_C_longestBlockingAt_5 (by decide) ?_
      refine lv_icmp_ge (tgt := 45) hx hb d_C_longestBlockingAt_7 (by decide) (fun h9 => absurd h9 (nlt_8 hi8)) (fun _ => ?_)
      refine lv_aload_n hx hb d_C_longestBlockingAt_10 rfl (lv_at hl 0 rfl) ?_
      refine va_get (D := D) (ci := 0) (v := .ref (ad 1)) (C := R_C) (T := F_C) (N := 7) hx hb hts in_C hown hK hP 0 cw_0 rfl 0 (by decide) (hts _ k_129) (fun _ h9 => h9) rfl d_C_longestBlockingAt_11 ?_
      refine lv_iload_n hx hb d_C_longestBlockingAt_14 rfl (lv_at hl 3 rfl) ?_
      have hi1 : vp_in (nI i) 8 := (vp_in_nI (by omega) (by decide))
      refine va_aldq hx hb hK hP 1 1 cw_1 rfl hi1 d_C_longestBlockingAt_15 ?_
      have hj2 : (nI i).toNatClampNeg < 8 := vi_lt hi1
      rw [show (nI i).toNatClampNeg = i from nI_clamp (by omega)]
      rw [show (nI i).toNatClampNeg = i from nI_clamp (by omega)] at hj2
      refine W.eq (g2 := F0 m 16 ls [.ref (ad (5 + 2 * i))]) rfl ?_
      refine va_getN (D := D) (ci := 1) (v := .int (st (5 + 2 * i) 0)) (C := R_T) (T := F_T) (N := 10) hx hb hts in_T hown hK hP (5 + 2 * i) (cw_k hj2) rfl 0 (by decide) (va_Nw.use rfl (hN _ nk_C_64)) (fun _ h9 => h9) rfl d_C_longestBlockingAt_16 ?_
      refine lv_iload_n hx hb d_C_longestBlockingAt_19 rfl (lv_at hl 1 rfl) ?_
      refine lv_icmp_ge (tgt := 39) hx hb d_C_longestBlockingAt_20 (by decide) (fun hc3 => ?_) (fun hc3 => ?_)
      · have he := he.trans (if_pos hc3)
        refine lv_iinc (k := 3) (v := (nI (i + 1))) hx hb d_C_longestBlockingAt_39 hl rfl (by first | rfl | (rw [nI_succ]; rfl)) (by decide) rfl (fun ls hl => ?_)
        have hl : lv_has ls 4 [(3, .int (nI (i + 1))), (0, .ref (ad 0)), (1, .int p1), (2, .int v2)] := hl
        refine lv_goto (tgt := 4) hx hb d_C_longestBlockingAt_42 (by decide) ?_
        exact ih (i + 1) v2 ls (by omega) (lv_sub hl [1, 2, 3, 0] rfl) he
      · have he := he.trans (if_neg hc3)
        refine lv_iload_n hx hb d_C_longestBlockingAt_23 rfl (lv_at hl 2 rfl) ?_
        refine lv_aload_n hx hb d_C_longestBlockingAt_24 rfl (lv_at hl 0 rfl) ?_
        refine lv_aload_n hx hb d_C_longestBlockingAt_25 rfl (lv_at hl 0 rfl) ?_
        refine va_get (D := D) (ci := 0) (v := .ref (ad 1)) (C := R_C) (T := F_C) (N := 7) hx hb hts in_C hown hK hP 0 cw_0 rfl 0 (by decide) (hts _ k_129) (fun _ h9 => h9) rfl d_C_longestBlockingAt_26 ?_
        refine lv_iload_n hx hb d_C_longestBlockingAt_29 rfl (lv_at hl 3 rfl) ?_
        have hi4 : vp_in (nI i) 8 := (vp_in_nI (by omega) (by decide))
        refine va_aldq hx hb hK hP 1 1 cw_1 rfl hi4 d_C_longestBlockingAt_30 ?_
        have hj5 : (nI i).toNatClampNeg < 8 := vi_lt hi4
        rw [show (nI i).toNatClampNeg = i from nI_clamp (by omega)]
        rw [show (nI i).toNatClampNeg = i from nI_clamp (by omega)] at hj5
        refine W.eq (g2 := F0 m 31 ls [.ref (ad (5 + 2 * i)), .ref (ad 0), .int v2]) rfl ?_
        refine lv_iload_n hx hb d_C_longestBlockingAt_31 rfl (lv_at hl 1 rfl) ?_
        refine rdV (As := [.ref (ad (5 + 2 * i)), .int p1]) (rest := [.int v2]) (na := 2) (c_C_longestUseOfCeiling l D cI cT cH ad st i p1 hj5) ⟨hx, hb, hml, hown, hts⟩ k_205 k_207 k_3 k_24 k_208 (by decide +kernel) (by decide) (by decide) hP hK hN (q0 := 0) (ci := 0) cw_0 rfl rfl hl.1 rfl (Nat.le_of_ble_eq_true rfl) d_C_longestBlockingAt_32 ?_
        refine va_mmax hx hb (hml.trans hl.1.symm) hown (hts _ k_209) (hts _ k_210) (hts _ k_34) (hts _ k_211) (Nat.le_of_ble_eq_true rfl) (Nat.le_of_ble_eq_true rfl) (Nat.le_of_ble_eq_true rfl) (Nat.le_of_ble_eq_true rfl) d_C_longestBlockingAt_35 ?_
        refine W.eq (g2 := F0 m 38 ls [.int (imax v2 (f_C_longestUseOfCeiling st i p1))]) rfl ?_
        refine lv_istore_n hx hb d_C_longestBlockingAt_38 rfl hl (by decide) rfl (fun ls hl => ?_)
        have hl : lv_has ls 4 [(2, .int (imax v2 (f_C_longestUseOfCeiling st i p1))), (0, .ref (ad 0)), (1, .int p1), (3, .int (nI i))] := hl
        refine lv_iinc (k := 3) (v := (nI (i + 1))) hx hb d_C_longestBlockingAt_39 hl rfl (by first | rfl | (rw [nI_succ]; rfl)) (by decide) rfl (fun ls hl => ?_)
        have hl : lv_has ls 4 [(3, .int (nI (i + 1))), (2, .int (imax v2 (f_C_longestUseOfCeiling st i p1))), (0, .ref (ad 0)), (1, .int p1)] := hl
        refine lv_goto (tgt := 4) hx hb d_C_longestBlockingAt_42 (by decide) ?_
        exact ih (i + 1) (imax v2 (f_C_longestUseOfCeiling st i p1)) ls (by omega) (lv_sub hl [2, 3, 1, 0] rfl) he
  have he := f_C_longestBlockingAt.eq_1 st p1
  refine lv_iconst (v := 0) hx hb d_C_longestBlockingAt_0 (by decide) ?_
  refine lv_istore_n hx hb d_C_longestBlockingAt_1 rfl hl (by decide) rfl (fun ls hl => ?_)
  have hl : lv_has ls 4 [(2, .int 0), (0, .ref (ad 0)), (1, .int p1)] := hl
  refine lv_iconst (v := 0) hx hb d_C_longestBlockingAt_2 (by decide) ?_
  refine lv_istore_n hx hb d_C_longestBlockingAt_3 rfl hl (by decide) rfl (fun ls hl => ?_)
  have hl : lv_has ls 4 [(3, .int 0), (2, .int 0), (0, .ref (ad 0)), (1, .int p1)] := hl
  exact L4 8 0 0 ls (by first | decide | omega) (lv_sub hl [2, 3, 1, 0] rfl) he
set_option maxHeartbeats 4000000 in
set_option maxRecDepth 100000 in
theorem c_C_demandOfOthers (l : Launch) (D : va_G) (cI cT cH : ClassId) (ad : Nat → Nat) (st : St) (p1 : Int32) (p2 : Int32) (hy0 : vp_in p1 8) : Met l y_C_demandOfOthers w_C_demandOfOthers { frames := 2, cells := 0, slots := 0, locals := 41 } (va_Pc [.ref (ad 0), .int p1, .int p2] (gW D cI cT cH (cw cI cT cH ad st))) (QcRead (f_C_demandOfOthers st p1 p2)) 0 0 (fun _ => False) := by
  refine Met.ofW (cc := b_C_demandOfOthers) (maxL := 5) (ret := (some .int)) (by decide +kernel) rfl ?_
  intro p e s m args below meth c s₁ B hml hv
  obtain ⟨rfl, hP, hK, hN⟩ := hv
  have hx := B.exec
  have hb := B.bytes
  have hr := B.returns
  have hlocks := B.notSynchronized
  have hts0 := atoms_spec (ws := w_C_demandOfOthers) B.pre
  have hts : ∀ w ∈ TT, w.before [.ref (ad 0), .int p1, .int p2].toArray s = true := fun w h => hts0 w (List.mem_cons_of_mem _ h)
  have hown : s.vm.findClass R_C = some m.cls := findClass_of_methodNamed B.named
  have hl := lv_entry ([.ref (ad 0), .int p1, .int p2]) (n := 5) (Nat.le_of_ble_eq_true rfl)
  rw [lg_entry_eq]
  generalize (lg_sl ([.ref (ad 0), .int p1, .int p2]) ++ List.replicate (5 - (lg_sl ([.ref (ad 0), .int p1, .int p2])).length) Slot.unset).toArray = ls at hl ⊢
  have hl : lv_has ls 5 [(0, .ref (ad 0)), (1, .int p1), (2, .int p2)] := hl
  have L5 : ∀ (n i : Nat) (v3 : Int32) (ls : Array Slot), i + n = 8 → lv_has ls 5 [(0, .ref (ad 0)), (1, .int p1), (2, .int p2), (3, .int v3), (4, .int (nI i))] → f_C_demandOfOthers st p1 p2 = f_C_demandOfOthers_L5 n i st p1 p2 v3 → W p l e (headSpec w_C_demandOfOthers { frames := 2, cells := 0, slots := 0, locals := 41 }).room s m [.ref (ad 0), .int p1, .int p2].toArray below meth c s.heap [] 0 0 (MQ below (QcRead (f_C_demandOfOthers st p1 p2)) [.ref (ad 0), .int p1, .int p2].toArray s 0 0 (fun _ => False)) (F0 m 5 ls []) := by
    intro n
    induction n with
    | zero =>
      intro i v3 ls hcnt hl he
      have hz : i = 8 := by omega
      subst hz
      rw [f_C_demandOfOthers_L5] at he
      refine lv_iload hx hb d_C_demandOfOthers_5 (lv_at hl 4 rfl) ?_
      refine lv_bipush (v := 8) hx hb d_C_demandOfOthers_7 (by decide) ?_
      refine lv_icmp_ge (tgt := 60) hx hb d_C_demandOfOthers_9 (by decide) (fun _ => ?_) (fun h9 => absurd (by decide) h9)
      refine lv_iload_n hx hb d_C_demandOfOthers_60 rfl (lv_at hl 3 rfl) ?_
      exact W.iret (v := v3) hx hb hr (fun t ht _ => ⟨by rw [he], ht⟩) (fun _ h => nomatch h) d_C_demandOfOthers_61
    | succ n ih =>
      intro i v3 ls hcnt hl he
      have hi8 : i < 8 := by omega
      rw [f_C_demandOfOthers_L5] at he
      refine lv_iload hx hb d_C_demandOfOthers_5 (lv_at hl 4 rfl) ?_
      refine lv_bipush (v := 8) hx hb d_C_demandOfOthers_7 (by decide) ?_
      refine lv_icmp_ge (tgt := 60) hx hb d_C_demandOfOthers_9 (by decide) (fun h9 => absurd h9 (nlt_8 hi8)) (fun _ => ?_)
      refine lv_iload hx hb d_C_demandOfOthers_12 (lv_at hl 4 rfl) ?_
      refine lv_iload_n hx hb d_C_demandOfOthers_14 rfl (lv_at hl 1 rfl) ?_
      refine lv_icmp_eq (tgt := 54) hx hb d_C_demandOfOthers_15 (by decide) (fun hc1 => ?_) (fun hc1 => ?_)
      · have he := he.trans (if_pos hc1)
        refine lv_iinc (k := 4) (v := (nI (i + 1))) hx hb d_C_demandOfOthers_54 hl rfl (by first | rfl | (rw [nI_succ]; rfl)) (by decide) rfl (fun ls hl => ?_)
        have hl : lv_has ls 5 [(4, .int (nI (i + 1))), (0, .ref (ad 0)), (1, .int p1), (2, .int p2), (3, .int v3)] := hl
        refine lv_goto (tgt := 5) hx hb d_C_demandOfOthers_57 (by decide) ?_
        exact ih (i + 1) v3 ls (by omega) (lv_sub hl [1, 2, 3, 4, 0] rfl) he
      · have he := he.trans (if_neg hc1)
        refine lv_aload_n hx hb d_C_demandOfOthers_18 rfl (lv_at hl 0 rfl) ?_
        refine va_get (D := D) (ci := 0) (v := .ref (ad 1)) (C := R_C) (T := F_C) (N := 7) hx hb hts in_C hown hK hP 0 cw_0 rfl 0 (by decide) (hts _ k_129) (fun _ h9 => h9) rfl d_C_demandOfOthers_19 ?_
        refine lv_iload hx hb d_C_demandOfOthers_22 (lv_at hl 4 rfl) ?_
        have hi2 : vp_in (nI i) 8 := (vp_in_nI (by omega) (by decide))
        refine va_aldq hx hb hK hP 1 1 cw_1 rfl hi2 d_C_demandOfOthers_24 ?_
        have hj3 : (nI i).toNatClampNeg < 8 := vi_lt hi2
        rw [show (nI i).toNatClampNeg = i from nI_clamp (by omega)]
        rw [show (nI i).toNatClampNeg = i from nI_clamp (by omega)] at hj3
        refine W.eq (g2 := F0 m 25 ls [.ref (ad (5 + 2 * i))]) rfl ?_
        refine va_getN (D := D) (ci := 1) (v := .int (st (5 + 2 * i) 0)) (C := R_T) (T := F_T) (N := 10) hx hb hts in_T hown hK hP (5 + 2 * i) (cw_k hj3) rfl 0 (by decide) (va_Nw.use rfl (hN _ nk_C_64)) (fun _ h9 => h9) rfl d_C_demandOfOthers_25 ?_
        refine lv_aload_n hx hb d_C_demandOfOthers_28 rfl (lv_at hl 0 rfl) ?_
        refine va_get (D := D) (ci := 0) (v := .ref (ad 1)) (C := R_C) (T := F_C) (N := 7) hx hb hts in_C hown hK hP 0 cw_0 rfl 0 (by decide) (hts _ k_129) (fun _ h9 => h9) rfl d_C_demandOfOthers_29 ?_
        refine lv_iload_n hx hb d_C_demandOfOthers_32 rfl (lv_at hl 1 rfl) ?_
        have hi4 : vp_in p1 8 := (by first | with_reducible assumption | exact vi_isIn7 (by with_reducible assumption) | exact vi_isThing (by with_reducible assumption) | exact vi_decl (by with_reducible assumption) | exact vi_ready (by with_reducible assumption) | exact vi_run (by with_reducible assumption) (by with_reducible assumption) | exact vi_run (by with_reducible assumption) (vi_runner _) | exact vi_mTask (by with_reducible assumption) | exact vi_mThing (by with_reducible assumption) | exact vi_mdecl (by with_reducible assumption) | exact vi_mready (by with_reducible assumption))
        refine va_aldq hx hb hK hP 1 1 cw_1 rfl hi4 d_C_demandOfOthers_33 ?_
        have hj5 : p1.toNatClampNeg < 8 := vi_lt hi4
        refine W.eq (g2 := F0 m 34 ls [.ref (ad (5 + 2 * p1.toNatClampNeg)), .int (st (5 + 2 * i) 0)]) rfl ?_
        refine va_getN (D := D) (ci := 1) (v := .int (st (5 + 2 * p1.toNatClampNeg) 0)) (C := R_T) (T := F_T) (N := 10) hx hb hts in_T hown hK hP (5 + 2 * p1.toNatClampNeg) (cw_k hj5) rfl 0 (by decide) (va_Nw.use rfl (hN _ nk_C_64)) (fun _ h9 => h9) rfl d_C_demandOfOthers_34 ?_
        refine lv_icmp_lt (tgt := 54) hx hb d_C_demandOfOthers_37 (by decide) (fun hc6 => ?_) (fun hc6 => ?_)
        · have he := he.trans (if_pos hc6)
          refine lv_iinc (k := 4) (v := (nI (i + 1))) hx hb d_C_demandOfOthers_54 hl rfl (by first | rfl | (rw [nI_succ]; rfl)) (by decide) rfl (fun ls hl => ?_)
          have hl : lv_has ls 5 [(4, .int (nI (i + 1))), (0, .ref (ad 0)), (1, .int p1), (2, .int p2), (3, .int v3)] := hl
          refine lv_goto (tgt := 5) hx hb d_C_demandOfOthers_57 (by decide) ?_
          exact ih (i + 1) v3 ls (by omega) (lv_sub hl [1, 2, 3, 4, 0] rfl) he
        · have he := he.trans (if_neg hc6)
          refine lv_iload_n hx hb d_C_demandOfOthers_40 rfl (lv_at hl 3 rfl) ?_
          refine lv_aload_n hx hb d_C_demandOfOthers_41 rfl (lv_at hl 0 rfl) ?_
          refine va_get (D := D) (ci := 0) (v := .ref (ad 1)) (C := R_C) (T := F_C) (N := 7) hx hb hts in_C hown hK hP 0 cw_0 rfl 0 (by decide) (hts _ k_129) (fun _ h9 => h9) rfl d_C_demandOfOthers_42 ?_
          refine lv_iload hx hb d_C_demandOfOthers_45 (lv_at hl 4 rfl) ?_
          have hi7 : vp_in (nI i) 8 := (vp_in_nI (by omega) (by decide))
          refine va_aldq hx hb hK hP 1 1 cw_1 rfl hi7 d_C_demandOfOthers_47 ?_
          have hj8 : (nI i).toNatClampNeg < 8 := vi_lt hi7
          rw [show (nI i).toNatClampNeg = i from nI_clamp (by omega)]
          rw [show (nI i).toNatClampNeg = i from nI_clamp (by omega)] at hj8
          refine W.eq (g2 := F0 m 48 ls [.ref (ad (5 + 2 * i)), .int v3]) rfl ?_
          refine lv_iload_n hx hb d_C_demandOfOthers_48 rfl (lv_at hl 2 rfl) ?_
          refine rdV (As := [.int p2]) (rest := [.int v3]) (na := 1) (c_T_demandIn l D cI cT cH ad st i p2 hj8) ⟨hx, hb, hml, hown, hts⟩ k_220 k_221 k_222 k_26 k_223 (by decide +kernel) (by decide) (by decide) hP hK hN (q0 := (5 + 2 * i)) (ci := 1) (cw_k hj8) rfl rfl hl.1 rfl (Nat.le_of_ble_eq_true rfl) d_C_demandOfOthers_49 ?_
          refine lv_iadd hx hb d_C_demandOfOthers_52 ?_
          refine lv_istore_n hx hb d_C_demandOfOthers_53 rfl hl (by decide) rfl (fun ls hl => ?_)
          have hl : lv_has ls 5 [(3, .int (v3 + (f_T_demandIn st i p2))), (0, .ref (ad 0)), (1, .int p1), (2, .int p2), (4, .int (nI i))] := hl
          refine lv_iinc (k := 4) (v := (nI (i + 1))) hx hb d_C_demandOfOthers_54 hl rfl (by first | rfl | (rw [nI_succ]; rfl)) (by decide) rfl (fun ls hl => ?_)
          have hl : lv_has ls 5 [(4, .int (nI (i + 1))), (3, .int (v3 + (f_T_demandIn st i p2))), (0, .ref (ad 0)), (1, .int p1), (2, .int p2)] := hl
          refine lv_goto (tgt := 5) hx hb d_C_demandOfOthers_57 (by decide) ?_
          exact ih (i + 1) (v3 + (f_T_demandIn st i p2)) ls (by omega) (lv_sub hl [2, 3, 4, 1, 0] rfl) he
  have he := f_C_demandOfOthers.eq_1 st p1 p2
  refine lv_iconst (v := 0) hx hb d_C_demandOfOthers_0 (by decide) ?_
  refine lv_istore_n hx hb d_C_demandOfOthers_1 rfl hl (by decide) rfl (fun ls hl => ?_)
  have hl : lv_has ls 5 [(3, .int 0), (0, .ref (ad 0)), (1, .int p1), (2, .int p2)] := hl
  refine lv_iconst (v := 0) hx hb d_C_demandOfOthers_2 (by decide) ?_
  refine lv_istore hx hb d_C_demandOfOthers_3 hl (by decide) rfl (fun ls hl => ?_)
  have hl : lv_has ls 5 [(4, .int 0), (3, .int 0), (0, .ref (ad 0)), (1, .int p1), (2, .int p2)] := hl
  exact L5 8 0 0 ls (by first | decide | omega) (lv_sub hl [2, 3, 4, 1, 0] rfl) he
