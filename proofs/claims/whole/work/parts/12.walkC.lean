set_option maxHeartbeats 4000000 in
set_option maxRecDepth 100000 in
theorem c_C_running (l : Launch) (D : va_G) (cI cT cH : ClassId) (ad : Nat → Nat) (st : St) : Met l y_C_running w_C_running { frames := 0, cells := 0, slots := 0, locals := 0 } (va_Pc [.ref (ad 0)] (gW D cI cT cH (cw cI cT cH ad st))) (QcRead (f_C_running st)) 0 0 (fun _ => False) := by
  refine Met.ofW (cc := b_C_running) (maxL := 1) (ret := (some .int)) (by decide +kernel) rfl ?_
  intro p e s m args below meth c s₁ B hml hv
  obtain ⟨rfl, hP, hK, hN⟩ := hv
  have hx := B.exec
  have hb := B.bytes
  have hr := B.returns
  have hlocks := B.notSynchronized
  have hts0 := atoms_spec (ws := w_C_running) B.pre
  have hts : ∀ w ∈ TT, w.before [.ref (ad 0)].toArray s = true := fun w h => hts0 w (List.mem_cons_of_mem _ h)
  have hown : s.vm.findClass R_C = some m.cls := findClass_of_methodNamed B.named
  have hl := lv_entry ([.ref (ad 0)]) (n := 1) (Nat.le_of_ble_eq_true rfl)
  rw [lg_entry_eq]
  generalize (lg_sl ([.ref (ad 0)]) ++ List.replicate (1 - (lg_sl ([.ref (ad 0)])).length) Slot.unset).toArray = ls at hl ⊢
  have hl : lv_has ls 1 [(0, .ref (ad 0))] := hl
  have he := f_C_running.eq_1 st
  refine lv_aload_n hx hb d_C_running_0 rfl (lv_at hl 0 rfl) ?_
  refine va_get (D := D) (ci := 0) (v := .int (st 0 6)) (C := R_C) (T := F_C) (N := 7) hx hb hts in_C hown hK hP 0 cw_0 rfl 6 (by decide) (hts _ k_135) (fun _ h9 => h9) rfl d_C_running_1 ?_
  exact W.iret (v := (st 0 6)) hx hb hr (fun t ht _ => ⟨by rw [he], ht⟩) (fun _ h => nomatch h) d_C_running_4
set_option maxHeartbeats 4000000 in
set_option maxRecDepth 100000 in
theorem c_C_priority (l : Launch) (D : va_G) (cI cT cH : ClassId) (ad : Nat → Nat) (st : St) (p1 : Int32) : Met l y_C_priority w_C_priority { frames := 2, cells := 0, slots := 0, locals := 43 } (va_Pc [.ref (ad 0), .int p1] (gW D cI cT cH (cw cI cT cH ad st))) (QcRead (f_C_priority st p1)) 0 0 (fun _ => False) := by
  refine Met.ofW (cc := b_C_priority) (maxL := 2) (ret := (some .int)) (by decide +kernel) rfl ?_
  intro p e s m args below meth c s₁ B hml hv
  obtain ⟨rfl, hP, hK, hN⟩ := hv
  have hx := B.exec
  have hb := B.bytes
  have hr := B.returns
  have hlocks := B.notSynchronized
  have hts0 := atoms_spec (ws := w_C_priority) B.pre
  have hts : ∀ w ∈ TT, w.before [.ref (ad 0), .int p1].toArray s = true := fun w h => hts0 w (List.mem_cons_of_mem _ h)
  have hown : s.vm.findClass R_C = some m.cls := findClass_of_methodNamed B.named
  have hl := lv_entry ([.ref (ad 0), .int p1]) (n := 2) (Nat.le_of_ble_eq_true rfl)
  rw [lg_entry_eq]
  generalize (lg_sl ([.ref (ad 0), .int p1]) ++ List.replicate (2 - (lg_sl ([.ref (ad 0), .int p1])).length) Slot.unset).toArray = ls at hl ⊢
  have hl : lv_has ls 2 [(0, .ref (ad 0)), (1, .int p1)] := hl
  have he := f_C_priority.eq_1 st p1
  refine lv_aload_n hx hb d_C_priority_0 rfl (lv_at hl 0 rfl) ?_
  refine lv_iload_n hx hb d_C_priority_1 rfl (lv_at hl 1 rfl) ?_
  refine rdV (As := [.int p1]) (rest := []) (na := 1) (c_C_isDeclared l D cI cT cH ad st p1 ) ⟨hx, hb, hml, hown, hts⟩ k_159 k_161 k_0 k_24 k_162 (by decide +kernel) (by decide) (by decide) hP hK hN (q0 := 0) (ci := 0) cw_0 rfl rfl hl.1 rfl (Nat.le_of_ble_eq_true rfl) d_C_priority_2 ?_
  refine lv_if_ne (tgt := 10) hx hb d_C_priority_5 (by decide) (fun hc1 => ?_) (fun hc1 => ?_)
  · have he := he.trans (if_neg hc1)
    refine lv_aload_n hx hb d_C_priority_10 rfl (lv_at hl 0 rfl) ?_
    refine va_get (D := D) (ci := 0) (v := .ref (ad 1)) (C := R_C) (T := F_C) (N := 7) hx hb hts in_C hown hK hP 0 cw_0 rfl 0 (by decide) (hts _ k_129) (fun _ h9 => h9) rfl d_C_priority_11 ?_
    refine lv_iload_n hx hb d_C_priority_14 rfl (lv_at hl 1 rfl) ?_
    have hi2 : vp_in p1 8 := (by first | with_reducible assumption | exact vi_isIn7 (by with_reducible assumption) | exact vi_isThing (by with_reducible assumption) | exact vi_decl (by with_reducible assumption) | exact vi_ready (by with_reducible assumption) | exact vi_run (by with_reducible assumption) (by with_reducible assumption) | exact vi_run (by with_reducible assumption) (vi_runner _) | exact vi_mTask (by with_reducible assumption) | exact vi_mThing (by with_reducible assumption) | exact vi_mdecl (by with_reducible assumption) | exact vi_mready (by with_reducible assumption))
    refine va_aldq hx hb hK hP 1 1 cw_1 rfl hi2 d_C_priority_15 ?_
    have hj3 : p1.toNatClampNeg < 8 := vi_lt hi2
    refine W.eq (g2 := F0 m 16 ls [.ref (ad (5 + 2 * p1.toNatClampNeg))]) rfl ?_
    refine va_getN (D := D) (ci := 1) (v := .int (st (5 + 2 * p1.toNatClampNeg) 4)) (C := R_T) (T := F_T) (N := 10) hx hb hts in_T hown hK hP (5 + 2 * p1.toNatClampNeg) (cw_k hj3) rfl 4 (by decide) (va_Nw.use rfl (hN _ nk_C_146)) (fun _ h9 => h9) rfl d_C_priority_16 ?_
    refine lv_if_eq (tgt := 34) hx hb d_C_priority_19 (by decide) (fun hc4 => ?_) (fun hc4 => ?_)
    · have he := he.trans (if_pos hc4)
      refine lv_aload_n hx hb d_C_priority_34 rfl (lv_at hl 0 rfl) ?_
      refine va_get (D := D) (ci := 0) (v := .ref (ad 1)) (C := R_C) (T := F_C) (N := 7) hx hb hts in_C hown hK hP 0 cw_0 rfl 0 (by decide) (hts _ k_129) (fun _ h9 => h9) rfl d_C_priority_35 ?_
      refine lv_iload_n hx hb d_C_priority_38 rfl (lv_at hl 1 rfl) ?_
      have hi5 : vp_in p1 8 := (by first | with_reducible assumption | exact vi_isIn7 (by with_reducible assumption) | exact vi_isThing (by with_reducible assumption) | exact vi_decl (by with_reducible assumption) | exact vi_ready (by with_reducible assumption) | exact vi_run (by with_reducible assumption) (by with_reducible assumption) | exact vi_run (by with_reducible assumption) (vi_runner _) | exact vi_mTask (by with_reducible assumption) | exact vi_mThing (by with_reducible assumption) | exact vi_mdecl (by with_reducible assumption) | exact vi_mready (by with_reducible assumption))
      refine va_aldq hx hb hK hP 1 1 cw_1 rfl hi5 d_C_priority_39 ?_
      have hj6 : p1.toNatClampNeg < 8 := vi_lt hi5
      refine W.eq (g2 := F0 m 40 ls [.ref (ad (5 + 2 * p1.toNatClampNeg))]) rfl ?_
      refine va_getN (D := D) (ci := 1) (v := .int (st (5 + 2 * p1.toNatClampNeg) 0)) (C := R_T) (T := F_T) (N := 10) hx hb hts in_T hown hK hP (5 + 2 * p1.toNatClampNeg) (cw_k hj6) rfl 0 (by decide) (va_Nw.use rfl (hN _ nk_C_64)) (fun _ h9 => h9) rfl d_C_priority_40 ?_
      exact W.iret (v := (st (5 + 2 * p1.toNatClampNeg) 0)) hx hb hr (fun t ht _ => ⟨by rw [he], ht⟩) (fun _ h => nomatch h) d_C_priority_43
    · have he := he.trans (if_neg hc4)
      refine lv_aload_n hx hb d_C_priority_22 rfl (lv_at hl 0 rfl) ?_
      refine va_get (D := D) (ci := 0) (v := .ref (ad 1)) (C := R_C) (T := F_C) (N := 7) hx hb hts in_C hown hK hP 0 cw_0 rfl 0 (by decide) (hts _ k_129) (fun _ h9 => h9) rfl d_C_priority_23 ?_
      refine lv_iload_n hx hb d_C_priority_26 rfl (lv_at hl 1 rfl) ?_
      have hi7 : vp_in p1 8 := (by first | with_reducible assumption | exact vi_isIn7 (by with_reducible assumption) | exact vi_isThing (by with_reducible assumption) | exact vi_decl (by with_reducible assumption) | exact vi_ready (by with_reducible assumption) | exact vi_run (by with_reducible assumption) (by with_reducible assumption) | exact vi_run (by with_reducible assumption) (vi_runner _) | exact vi_mTask (by with_reducible assumption) | exact vi_mThing (by with_reducible assumption) | exact vi_mdecl (by with_reducible assumption) | exact vi_mready (by with_reducible assumption))
      refine va_aldq hx hb hK hP 1 1 cw_1 rfl hi7 d_C_priority_27 ?_
      have hj8 : p1.toNatClampNeg < 8 := vi_lt hi7
      refine W.eq (g2 := F0 m 28 ls [.ref (ad (5 + 2 * p1.toNatClampNeg))]) rfl ?_
      refine va_getN (D := D) (ci := 1) (v := .int (st (5 + 2 * p1.toNatClampNeg) 5)) (C := R_T) (T := F_T) (N := 10) hx hb hts in_T hown hK hP (5 + 2 * p1.toNatClampNeg) (cw_k hj8) rfl 5 (by decide) (va_Nw.use rfl (hN _ nk_C_128)) (fun _ h9 => h9) rfl d_C_priority_28 ?_
      refine lv_goto (tgt := 43) hx hb d_C_priority_31 (by decide) ?_
      exact W.iret (v := (st (5 + 2 * p1.toNatClampNeg) 5)) hx hb hr (fun t ht _ => ⟨by rw [he], ht⟩) (fun _ h => nomatch h) d_C_priority_43
  · have he := he.trans (if_pos hc1)
    refine lv_iconst (v := (-1)) hx hb d_C_priority_8 (by decide) ?_
    exact W.iret (v := (-1)) hx hb hr (fun t ht _ => ⟨by rw [he], ht⟩) (fun _ h => nomatch h) d_C_priority_9
set_option maxHeartbeats 4000000 in
set_option maxRecDepth 100000 in
theorem c_C_place (l : Launch) (D : va_G) (cI cT cH : ClassId) (ad : Nat → Nat) (st : St) (p1 : Int32) : Met l y_C_place w_C_place { frames := 2, cells := 0, slots := 0, locals := 43 } (va_Pc [.ref (ad 0), .int p1] (gW D cI cT cH (cw cI cT cH ad st))) (QcRead (f_C_place st p1)) 0 0 (fun _ => False) := by
  refine Met.ofW (cc := b_C_place) (maxL := 4) (ret := (some .int)) (by decide +kernel) rfl ?_
  intro p e s m args below meth c s₁ B hml hv
  obtain ⟨rfl, hP, hK, hN⟩ := hv
  have hx := B.exec
  have hb := B.bytes
  have hr := B.returns
  have hlocks := B.notSynchronized
  have hts0 := atoms_spec (ws := w_C_place) B.pre
  have hts : ∀ w ∈ TT, w.before [.ref (ad 0), .int p1].toArray s = true := fun w h => hts0 w (List.mem_cons_of_mem _ h)
  have hown : s.vm.findClass R_C = some m.cls := findClass_of_methodNamed B.named
  have hl := lv_entry ([.ref (ad 0), .int p1]) (n := 4) (Nat.le_of_ble_eq_true rfl)
  rw [lg_entry_eq]
  generalize (lg_sl ([.ref (ad 0), .int p1]) ++ List.replicate (4 - (lg_sl ([.ref (ad 0), .int p1])).length) Slot.unset).toArray = ls at hl ⊢
  have hl : lv_has ls 4 [(0, .ref (ad 0)), (1, .int p1)] := hl
  have L14 : ∀ (n i : Nat) (v2 : Int32) (ls : Array Slot), i + n = 8 → lv_has ls 4 [(0, .ref (ad 0)), (1, .int p1), (2, .int v2), (3, .int (nI i))] → (vp_in p1 8) → f_C_place st p1 = f_C_place_L14 n i st p1 v2 → W p l e (headSpec w_C_place { frames := 2, cells := 0, slots := 0, locals := 43 }).room s m [.ref (ad 0), .int p1].toArray below meth c s.heap [] 0 0 (MQ below (QcRead (f_C_place st p1)) [.ref (ad 0), .int p1].toArray s 0 0 (fun _ => False)) (F0 m 14 ls []) := by
    intro n
    induction n with
    | zero =>
      intro i v2 ls hcnt hl g0 he
      have hz : i = 8 := by omega
      subst hz
      rw [f_C_place_L14] at he
      refine lv_iload_n hx hb d_C_place_14 rfl (lv_at hl 3 rfl) ?_
      refine lv_bipush (v := 8) hx hb d_C_place_15 (by decide) ?_
      refine lv_icmp_ge (tgt := 59) hx hb d_C_place_17 (by decide) (fun _ => ?_) (fun h9 => absurd (by decide) h9)
      refine lv_iload_n hx hb d_C_place_59 rfl (lv_at hl 2 rfl) ?_
      exact W.iret (v := v2) hx hb hr (fun t ht _ => ⟨by rw [he], ht⟩) (fun _ h => nomatch h) d_C_place_60
    | succ n ih =>
      intro i v2 ls hcnt hl g0 he
      have hi8 : i < 8 := by omega
      rw [f_C_place_L14] at he
      refine lv_iload_n hx hb d_C_place_14 rfl (lv_at hl 3 rfl) ?_
      refine lv_bipush (v := 8) hx hb d_C_place_15 (by decide) ?_
      refine lv_icmp_ge (tgt := 59) hx hb d_C_place_17 (by decide) (fun h9 => absurd h9 (nlt_8 hi8)) (fun _ => ?_)
      refine lv_aload_n hx hb d_C_place_20 rfl (lv_at hl 0 rfl) ?_
      refine va_get (D := D) (ci := 0) (v := .ref (ad 1)) (C := R_C) (T := F_C) (N := 7) hx hb hts in_C hown hK hP 0 cw_0 rfl 0 (by decide) (hts _ k_129) (fun _ h9 => h9) rfl d_C_place_21 ?_
      refine lv_iload_n hx hb d_C_place_24 rfl (lv_at hl 3 rfl) ?_
      have hi1 : vp_in (nI i) 8 := (vp_in_nI (by omega) (by decide))
      refine va_aldq hx hb hK hP 1 1 cw_1 rfl hi1 d_C_place_25 ?_
      have hj2 : (nI i).toNatClampNeg < 8 := vi_lt hi1
      rw [show (nI i).toNatClampNeg = i from nI_clamp (by omega)]
      rw [show (nI i).toNatClampNeg = i from nI_clamp (by omega)] at hj2
      refine W.eq (g2 := F0 m 26 ls [.ref (ad (5 + 2 * i))]) rfl ?_
      refine va_getN (D := D) (ci := 1) (v := .int (st (5 + 2 * i) 4)) (C := R_T) (T := F_T) (N := 10) hx hb hts in_T hown hK hP (5 + 2 * i) (cw_k hj2) rfl 4 (by decide) (va_Nw.use rfl (hN _ nk_C_146)) (fun _ h9 => h9) rfl d_C_place_26 ?_
      refine lv_if_eq (tgt := 53) hx hb d_C_place_29 (by decide) (fun hc3 => ?_) (fun hc3 => ?_)
      · have he := he.trans (if_pos hc3)
        refine lv_iinc (k := 3) (v := (nI (i + 1))) hx hb d_C_place_53 hl rfl (by first | rfl | (rw [nI_succ]; rfl)) (by decide) rfl (fun ls hl => ?_)
        have hl : lv_has ls 4 [(3, .int (nI (i + 1))), (0, .ref (ad 0)), (1, .int p1), (2, .int v2)] := hl
        refine lv_goto (tgt := 14) hx hb d_C_place_56 (by decide) ?_
        exact ih (i + 1) v2 ls (by omega) (lv_sub hl [1, 2, 3, 0] rfl) (by first | with_reducible assumption | exact Or.inl rfl | exact (fun h9 => absurd h9 (by decide)) | exact (fun h9 => absurd rfl h9) | exact vi_runner _ | exact Or.inr (vp_in_nI (by omega) (by decide)) | exact Or.inr (by first | with_reducible assumption | exact vi_isIn7 (by with_reducible assumption) | exact vi_isThing (by with_reducible assumption) | exact vi_decl (by with_reducible assumption) | exact vi_ready (by with_reducible assumption) | exact vi_run (by with_reducible assumption) (by with_reducible assumption) | exact vi_run (by with_reducible assumption) (vi_runner _) | exact vi_mTask (by with_reducible assumption) | exact vi_mThing (by with_reducible assumption) | exact vi_mdecl (by with_reducible assumption) | exact vi_mready (by with_reducible assumption)) | exact (fun _ => ⟨(by first | with_reducible assumption | exact vi_isIn7 (by with_reducible assumption) | exact vi_isThing (by with_reducible assumption) | exact vi_decl (by with_reducible assumption) | exact vi_ready (by with_reducible assumption) | exact vi_run (by with_reducible assumption) (by with_reducible assumption) | exact vi_run (by with_reducible assumption) (vi_runner _) | exact vi_mTask (by with_reducible assumption) | exact vi_mThing (by with_reducible assumption) | exact vi_mdecl (by with_reducible assumption) | exact vi_mready (by with_reducible assumption)), (by first | with_reducible assumption | exact vi_isIn7 (by with_reducible assumption) | exact vi_isThing (by with_reducible assumption) | exact vi_decl (by with_reducible assumption) | exact vi_ready (by with_reducible assumption) | exact vi_run (by with_reducible assumption) (by with_reducible assumption) | exact vi_run (by with_reducible assumption) (vi_runner _) | exact vi_mTask (by with_reducible assumption) | exact vi_mThing (by with_reducible assumption) | exact vi_mdecl (by with_reducible assumption) | exact vi_mready (by with_reducible assumption))⟩) | exact (fun _ => ⟨vi_latest (by with_reducible assumption) (by with_reducible assumption), vi_run (by with_reducible assumption) (by with_reducible assumption)⟩) | exact (fun _ => (by with_reducible assumption : ¬ v4 = 0 → _) (by with_reducible assumption)) | exact (fun _ => (by first | with_reducible assumption | exact vi_isIn7 (by with_reducible assumption) | exact vi_isThing (by with_reducible assumption) | exact vi_decl (by with_reducible assumption) | exact vi_ready (by with_reducible assumption) | exact vi_run (by with_reducible assumption) (by with_reducible assumption) | exact vi_run (by with_reducible assumption) (vi_runner _) | exact vi_mTask (by with_reducible assumption) | exact vi_mThing (by with_reducible assumption) | exact vi_mdecl (by with_reducible assumption) | exact vi_mready (by with_reducible assumption))) | exact (by first | with_reducible assumption | exact vi_isIn7 (by with_reducible assumption) | exact vi_isThing (by with_reducible assumption) | exact vi_decl (by with_reducible assumption) | exact vi_ready (by with_reducible assumption) | exact vi_run (by with_reducible assumption) (by with_reducible assumption) | exact vi_run (by with_reducible assumption) (vi_runner _) | exact vi_mTask (by with_reducible assumption) | exact vi_mThing (by with_reducible assumption) | exact vi_mdecl (by with_reducible assumption) | exact vi_mready (by with_reducible assumption))) he
      · have he := he.trans (if_neg hc3)
        refine lv_aload_n hx hb d_C_place_32 rfl (lv_at hl 0 rfl) ?_
        refine va_get (D := D) (ci := 0) (v := .ref (ad 1)) (C := R_C) (T := F_C) (N := 7) hx hb hts in_C hown hK hP 0 cw_0 rfl 0 (by decide) (hts _ k_129) (fun _ h9 => h9) rfl d_C_place_33 ?_
        refine lv_iload_n hx hb d_C_place_36 rfl (lv_at hl 3 rfl) ?_
        have hi4 : vp_in (nI i) 8 := (vp_in_nI (by omega) (by decide))
        refine va_aldq hx hb hK hP 1 1 cw_1 rfl hi4 d_C_place_37 ?_
        have hj5 : (nI i).toNatClampNeg < 8 := vi_lt hi4
        rw [show (nI i).toNatClampNeg = i from nI_clamp (by omega)]
        rw [show (nI i).toNatClampNeg = i from nI_clamp (by omega)] at hj5
        refine W.eq (g2 := F0 m 38 ls [.ref (ad (5 + 2 * i))]) rfl ?_
        refine lv_aload_n hx hb d_C_place_38 rfl (lv_at hl 0 rfl) ?_
        refine va_get (D := D) (ci := 0) (v := .ref (ad 1)) (C := R_C) (T := F_C) (N := 7) hx hb hts in_C hown hK hP 0 cw_0 rfl 0 (by decide) (hts _ k_129) (fun _ h9 => h9) rfl d_C_place_39 ?_
        refine lv_iload_n hx hb d_C_place_42 rfl (lv_at hl 1 rfl) ?_
        have hi6 : vp_in p1 8 := (by first | with_reducible assumption | exact vi_isIn7 (by with_reducible assumption) | exact vi_isThing (by with_reducible assumption) | exact vi_decl (by with_reducible assumption) | exact vi_ready (by with_reducible assumption) | exact vi_run (by with_reducible assumption) (by with_reducible assumption) | exact vi_run (by with_reducible assumption) (vi_runner _) | exact vi_mTask (by with_reducible assumption) | exact vi_mThing (by with_reducible assumption) | exact vi_mdecl (by with_reducible assumption) | exact vi_mready (by with_reducible assumption))
        refine va_aldq hx hb hK hP 1 1 cw_1 rfl hi6 d_C_place_43 ?_
        have hj7 : p1.toNatClampNeg < 8 := vi_lt hi6
        refine W.eq (g2 := F0 m 44 ls [.ref (ad (5 + 2 * p1.toNatClampNeg)), .ref (ad (5 + 2 * i))]) rfl ?_
        refine rdV (As := [.ref (ad (5 + 2 * p1.toNatClampNeg))]) (rest := []) (na := 1) (c_T_goesBefore l D cI cT cH ad st i p1.toNatClampNeg hj5 hj7) ⟨hx, hb, hml, hown, hts⟩ k_178 k_179 k_180 k_26 k_181 (by decide +kernel) (by decide) (by decide) hP hK hN (q0 := (5 + 2 * i)) (ci := 1) (cw_k hj5) rfl rfl hl.1 rfl (Nat.le_of_ble_eq_true rfl) d_C_place_44 ?_
        refine lv_if_eq (tgt := 53) hx hb d_C_place_47 (by decide) (fun hc8 => ?_) (fun hc8 => ?_)
        · have he := he.trans (if_pos hc8)
          refine lv_iinc (k := 3) (v := (nI (i + 1))) hx hb d_C_place_53 hl rfl (by first | rfl | (rw [nI_succ]; rfl)) (by decide) rfl (fun ls hl => ?_)
          have hl : lv_has ls 4 [(3, .int (nI (i + 1))), (0, .ref (ad 0)), (1, .int p1), (2, .int v2)] := hl
          refine lv_goto (tgt := 14) hx hb d_C_place_56 (by decide) ?_
          exact ih (i + 1) v2 ls (by omega) (lv_sub hl [1, 2, 3, 0] rfl) (by first | with_reducible assumption | exact Or.inl rfl | exact (fun h9 => absurd h9 (by decide)) | exact (fun h9 => absurd rfl h9) | exact vi_runner _ | exact Or.inr (vp_in_nI (by omega) (by decide)) | exact Or.inr (by first | with_reducible assumption | exact vi_isIn7 (by with_reducible assumption) | exact vi_isThing (by with_reducible assumption) | exact vi_decl (by with_reducible assumption) | exact vi_ready (by with_reducible assumption) | exact vi_run (by with_reducible assumption) (by with_reducible assumption) | exact vi_run (by with_reducible assumption) (vi_runner _) | exact vi_mTask (by with_reducible assumption) | exact vi_mThing (by with_reducible assumption) | exact vi_mdecl (by with_reducible assumption) | exact vi_mready (by with_reducible assumption)) | exact (fun _ => ⟨(by first | with_reducible assumption | exact vi_isIn7 (by with_reducible assumption) | exact vi_isThing (by with_reducible assumption) | exact vi_decl (by with_reducible assumption) | exact vi_ready (by with_reducible assumption) | exact vi_run (by with_reducible assumption) (by with_reducible assumption) | exact vi_run (by with_reducible assumption) (vi_runner _) | exact vi_mTask (by with_reducible assumption) | exact vi_mThing (by with_reducible assumption) | exact vi_mdecl (by with_reducible assumption) | exact vi_mready (by with_reducible assumption)), (by first | with_reducible assumption | exact vi_isIn7 (by with_reducible assumption) | exact vi_isThing (by with_reducible assumption) | exact vi_decl (by with_reducible assumption) | exact vi_ready (by with_reducible assumption) | exact vi_run (by with_reducible assumption) (by with_reducible assumption) | exact vi_run (by with_reducible assumption) (vi_runner _) | exact vi_mTask (by with_reducible assumption) | exact vi_mThing (by with_reducible assumption) | exact vi_mdecl (by with_reducible assumption) | exact vi_mready (by with_reducible assumption))⟩) | exact (fun _ => ⟨vi_latest (by with_reducible assumption) (by with_reducible assumption), vi_run (by with_reducible assumption) (by with_reducible assumption)⟩) | exact (fun _ => (by with_reducible assumption : ¬ v4 = 0 → _) (by with_reducible assumption)) | exact (fun _ => (by first | with_reducible assumption | exact vi_isIn7 (by with_reducible assumption) | exact vi_isThing (by with_reducible assumption) | exact vi_decl (by with_reducible assumption) | exact vi_ready (by with_reducible assumption) | exact vi_run (by with_reducible assumption) (by with_reducible assumption) | exact vi_run (by with_reducible assumption) (vi_runner _) | exact vi_mTask (by with_reducible assumption) | exact vi_mThing (by with_reducible assumption) | exact vi_mdecl (by with_reducible assumption) | exact vi_mready (by with_reducible assumption))) | exact (by first | with_reducible assumption | exact vi_isIn7 (by with_reducible assumption) | exact vi_isThing (by with_reducible assumption) | exact vi_decl (by with_reducible assumption) | exact vi_ready (by with_reducible assumption) | exact vi_run (by with_reducible assumption) (by with_reducible assumption) | exact vi_run (by with_reducible assumption) (vi_runner _) | exact vi_mTask (by with_reducible assumption) | exact vi_mThing (by with_reducible assumption) | exact vi_mdecl (by with_reducible assumption) | exact vi_mready (by with_reducible assumption))) he
        · have he := he.trans (if_neg hc8)
          refine lv_iinc (k := 2) (v := (v2 + 1)) hx hb d_C_place_50 hl rfl (by first | rfl | (rw [nI_succ]; rfl)) (by decide) rfl (fun ls hl => ?_)
          have hl : lv_has ls 4 [(2, .int (v2 + 1)), (0, .ref (ad 0)), (1, .int p1), (3, .int (nI i))] := hl
          refine lv_iinc (k := 3) (v := (nI (i + 1))) hx hb d_C_place_53 hl rfl (by first | rfl | (rw [nI_succ]; rfl)) (by decide) rfl (fun ls hl => ?_)
          have hl : lv_has ls 4 [(3, .int (nI (i + 1))), (2, .int (v2 + 1)), (0, .ref (ad 0)), (1, .int p1)] := hl
          refine lv_goto (tgt := 14) hx hb d_C_place_56 (by decide) ?_
          exact ih (i + 1) (v2 + 1) ls (by omega) (lv_sub hl [2, 3, 1, 0] rfl) (by first | with_reducible assumption | exact Or.inl rfl | exact (fun h9 => absurd h9 (by decide)) | exact (fun h9 => absurd rfl h9) | exact vi_runner _ | exact Or.inr (vp_in_nI (by omega) (by decide)) | exact Or.inr (by first | with_reducible assumption | exact vi_isIn7 (by with_reducible assumption) | exact vi_isThing (by with_reducible assumption) | exact vi_decl (by with_reducible assumption) | exact vi_ready (by with_reducible assumption) | exact vi_run (by with_reducible assumption) (by with_reducible assumption) | exact vi_run (by with_reducible assumption) (vi_runner _) | exact vi_mTask (by with_reducible assumption) | exact vi_mThing (by with_reducible assumption) | exact vi_mdecl (by with_reducible assumption) | exact vi_mready (by with_reducible assumption)) | exact (fun _ => ⟨(by first | with_reducible assumption | exact vi_isIn7 (by with_reducible assumption) | exact vi_isThing (by with_reducible assumption) | exact vi_decl (by with_reducible assumption) | exact vi_ready (by with_reducible assumption) | exact vi_run (by with_reducible assumption) (by with_reducible assumption) | exact vi_run (by with_reducible assumption) (vi_runner _) | exact vi_mTask (by with_reducible assumption) | exact vi_mThing (by with_reducible assumption) | exact vi_mdecl (by with_reducible assumption) | exact vi_mready (by with_reducible assumption)), (by first | with_reducible assumption | exact vi_isIn7 (by with_reducible assumption) | exact vi_isThing (by with_reducible assumption) | exact vi_decl (by with_reducible assumption) | exact vi_ready (by with_reducible assumption) | exact vi_run (by with_reducible assumption) (by with_reducible assumption) | exact vi_run (by with_reducible assumption) (vi_runner _) | exact vi_mTask (by with_reducible assumption) | exact vi_mThing (by with_reducible assumption) | exact vi_mdecl (by with_reducible assumption) | exact vi_mready (by with_reducible assumption))⟩) | exact (fun _ => ⟨vi_latest (by with_reducible assumption) (by with_reducible assumption), vi_run (by with_reducible assumption) (by with_reducible assumption)⟩) | exact (fun _ => (by with_reducible assumption : ¬ v4 = 0 → _) (by with_reducible assumption)) | exact (fun _ => (by first | with_reducible assumption | exact vi_isIn7 (by with_reducible assumption) | exact vi_isThing (by with_reducible assumption) | exact vi_decl (by with_reducible assumption) | exact vi_ready (by with_reducible assumption) | exact vi_run (by with_reducible assumption) (by with_reducible assumption) | exact vi_run (by with_reducible assumption) (vi_runner _) | exact vi_mTask (by with_reducible assumption) | exact vi_mThing (by with_reducible assumption) | exact vi_mdecl (by with_reducible assumption) | exact vi_mready (by with_reducible assumption))) | exact (by first | with_reducible assumption | exact vi_isIn7 (by with_reducible assumption) | exact vi_isThing (by with_reducible assumption) | exact vi_decl (by with_reducible assumption) | exact vi_ready (by with_reducible assumption) | exact vi_run (by with_reducible assumption) (by with_reducible assumption) | exact vi_run (by with_reducible assumption) (vi_runner _) | exact vi_mTask (by with_reducible assumption) | exact vi_mThing (by with_reducible assumption) | exact vi_mdecl (by with_reducible assumption) | exact vi_mready (by with_reducible assumption))) he
  have he := f_C_place.eq_1 st p1
  refine lv_aload_n hx hb d_C_place_0 rfl (lv_at hl 0 rfl) ?_
  refine lv_iload_n hx hb d_C_place_1 rfl (lv_at hl 1 rfl) ?_
  refine rdV (As := [.int p1]) (rest := []) (na := 1) (c_C_isReady l D cI cT cH ad st p1 ) ⟨hx, hb, hml, hown, hts⟩ k_174 k_176 k_1 k_24 k_177 (by decide +kernel) (by decide) (by decide) hP hK hN (q0 := 0) (ci := 0) cw_0 rfl rfl hl.1 rfl (Nat.le_of_ble_eq_true rfl) d_C_place_2 ?_
  refine lv_if_ne (tgt := 10) hx hb d_C_place_5 (by decide) (fun hc9 => ?_) (fun hc9 => ?_)
  · have he := he.trans (if_neg hc9)
    refine lv_iconst (v := 0) hx hb d_C_place_10 (by decide) ?_
    refine lv_istore_n hx hb d_C_place_11 rfl hl (by decide) rfl (fun ls hl => ?_)
    have hl : lv_has ls 4 [(2, .int 0), (0, .ref (ad 0)), (1, .int p1)] := hl
    refine lv_iconst (v := 0) hx hb d_C_place_12 (by decide) ?_
    refine lv_istore_n hx hb d_C_place_13 rfl hl (by decide) rfl (fun ls hl => ?_)
    have hl : lv_has ls 4 [(3, .int 0), (2, .int 0), (0, .ref (ad 0)), (1, .int p1)] := hl
    exact L14 8 0 0 ls (by first | decide | omega) (lv_sub hl [2, 3, 1, 0] rfl) (by first | with_reducible assumption | exact Or.inl rfl | exact (fun h9 => absurd h9 (by decide)) | exact (fun h9 => absurd rfl h9) | exact vi_runner _ | exact Or.inr (vp_in_nI (by omega) (by decide)) | exact Or.inr (by first | with_reducible assumption | exact vi_isIn7 (by with_reducible assumption) | exact vi_isThing (by with_reducible assumption) | exact vi_decl (by with_reducible assumption) | exact vi_ready (by with_reducible assumption) | exact vi_run (by with_reducible assumption) (by with_reducible assumption) | exact vi_run (by with_reducible assumption) (vi_runner _) | exact vi_mTask (by with_reducible assumption) | exact vi_mThing (by with_reducible assumption) | exact vi_mdecl (by with_reducible assumption) | exact vi_mready (by with_reducible assumption)) | exact (fun _ => ⟨(by first | with_reducible assumption | exact vi_isIn7 (by with_reducible assumption) | exact vi_isThing (by with_reducible assumption) | exact vi_decl (by with_reducible assumption) | exact vi_ready (by with_reducible assumption) | exact vi_run (by with_reducible assumption) (by with_reducible assumption) | exact vi_run (by with_reducible assumption) (vi_runner _) | exact vi_mTask (by with_reducible assumption) | exact vi_mThing (by with_reducible assumption) | exact vi_mdecl (by with_reducible assumption) | exact vi_mready (by with_reducible assumption)), (by first | with_reducible assumption | exact vi_isIn7 (by with_reducible assumption) | exact vi_isThing (by with_reducible assumption) | exact vi_decl (by with_reducible assumption) | exact vi_ready (by with_reducible assumption) | exact vi_run (by with_reducible assumption) (by with_reducible assumption) | exact vi_run (by with_reducible assumption) (vi_runner _) | exact vi_mTask (by with_reducible assumption) | exact vi_mThing (by with_reducible assumption) | exact vi_mdecl (by with_reducible assumption) | exact vi_mready (by with_reducible assumption))⟩) | exact (fun _ => ⟨vi_latest (by with_reducible assumption) (by with_reducible assumption), vi_run (by with_reducible assumption) (by with_reducible assumption)⟩) | exact (fun _ => (by with_reducible assumption : ¬ v4 = 0 → _) (by with_reducible assumption)) | exact (fun _ => (by first | with_reducible assumption | exact vi_isIn7 (by with_reducible assumption) | exact vi_isThing (by with_reducible assumption) | exact vi_decl (by with_reducible assumption) | exact vi_ready (by with_reducible assumption) | exact vi_run (by with_reducible assumption) (by with_reducible assumption) | exact vi_run (by with_reducible assumption) (vi_runner _) | exact vi_mTask (by with_reducible assumption) | exact vi_mThing (by with_reducible assumption) | exact vi_mdecl (by with_reducible assumption) | exact vi_mready (by with_reducible assumption))) | exact (by first | with_reducible assumption | exact vi_isIn7 (by with_reducible assumption) | exact vi_isThing (by with_reducible assumption) | exact vi_decl (by with_reducible assumption) | exact vi_ready (by with_reducible assumption) | exact vi_run (by with_reducible assumption) (by with_reducible assumption) | exact vi_run (by with_reducible assumption) (vi_runner _) | exact vi_mTask (by with_reducible assumption) | exact vi_mThing (by with_reducible assumption) | exact vi_mdecl (by with_reducible assumption) | exact vi_mready (by with_reducible assumption))) he
  · have he := he.trans (if_pos hc9)
    refine lv_iconst (v := (-1)) hx hb d_C_place_8 (by decide) ?_
    exact W.iret (v := (-1)) hx hb hr (fun t ht _ => ⟨by rw [he], ht⟩) (fun _ h => nomatch h) d_C_place_9
set_option maxHeartbeats 4000000 in
set_option maxRecDepth 100000 in
theorem c_C_ceiling (l : Launch) (D : va_G) (cI cT cH : ClassId) (ad : Nat → Nat) (st : St) (p1 : Int32) : Met l y_C_ceiling w_C_ceiling { frames := 2, cells := 0, slots := 0, locals := 42 } (va_Pc [.ref (ad 0), .int p1] (gW D cI cT cH (cw cI cT cH ad st))) (QcRead (f_C_ceiling st p1)) 0 0 (fun _ => False) := by
  refine Met.ofW (cc := b_C_ceiling) (maxL := 2) (ret := (some .int)) (by decide +kernel) rfl ?_
  intro p e s m args below meth c s₁ B hml hv
  obtain ⟨rfl, hP, hK, hN⟩ := hv
  have hx := B.exec
  have hb := B.bytes
  have hr := B.returns
  have hlocks := B.notSynchronized
  have hts0 := atoms_spec (ws := w_C_ceiling) B.pre
  have hts : ∀ w ∈ TT, w.before [.ref (ad 0), .int p1].toArray s = true := fun w h => hts0 w (List.mem_cons_of_mem _ h)
  have hown : s.vm.findClass R_C = some m.cls := findClass_of_methodNamed B.named
  have hl := lv_entry ([.ref (ad 0), .int p1]) (n := 2) (Nat.le_of_ble_eq_true rfl)
  rw [lg_entry_eq]
  generalize (lg_sl ([.ref (ad 0), .int p1]) ++ List.replicate (2 - (lg_sl ([.ref (ad 0), .int p1])).length) Slot.unset).toArray = ls at hl ⊢
  have hl : lv_has ls 2 [(0, .ref (ad 0)), (1, .int p1)] := hl
  have he := f_C_ceiling.eq_1 st p1
  refine lv_aload_n hx hb d_C_ceiling_0 rfl (lv_at hl 0 rfl) ?_
  refine va_get (D := D) (ci := 0) (v := .int (st 0 3)) (C := R_C) (T := F_C) (N := 7) hx hb hts in_C hown hK hP 0 cw_0 rfl 3 (by decide) (hts _ k_132) (fun _ h9 => h9) rfl d_C_ceiling_1 ?_
  refine lv_if_eq (tgt := 26) hx hb d_C_ceiling_4 (by decide) (fun hc1 => ?_) (fun hc1 => ?_)
  · have he := he.trans (if_pos hc1)
    refine lv_iconst (v := (-1)) hx hb d_C_ceiling_26 (by decide) ?_
    exact W.iret (v := (-1)) hx hb hr (fun t ht _ => ⟨by rw [he], ht⟩) (fun _ h => nomatch h) d_C_ceiling_27
  · have he := he.trans (if_neg hc1)
    refine lv_iload_n hx hb d_C_ceiling_7 rfl (lv_at hl 1 rfl) ?_
    refine rdS (As := [.int p1]) (rest := []) (na := 1) (c_C_isThing l p1 ) ⟨hx, hb, hml, hown, hts⟩ k_186 k_187 k_24 k_188 (by decide +kernel) (by decide) (by decide) rfl hl.1 rfl (Nat.le_of_ble_eq_true rfl) d_C_ceiling_8 ?_
    refine lv_if_eq (tgt := 26) hx hb d_C_ceiling_11 (by decide) (fun hc2 => ?_) (fun hc2 => ?_)
    · have he := he.trans (if_pos hc2)
      refine lv_iconst (v := (-1)) hx hb d_C_ceiling_26 (by decide) ?_
      exact W.iret (v := (-1)) hx hb hr (fun t ht _ => ⟨by rw [he], ht⟩) (fun _ h => nomatch h) d_C_ceiling_27
    · have he := he.trans (if_neg hc2)
      refine lv_aload_n hx hb d_C_ceiling_14 rfl (lv_at hl 0 rfl) ?_
      refine va_get (D := D) (ci := 0) (v := .ref (ad 2)) (C := R_C) (T := F_C) (N := 7) hx hb hts in_C hown hK hP 0 cw_0 rfl 1 (by decide) (hts _ k_130) (fun _ h9 => h9) rfl d_C_ceiling_15 ?_
      refine lv_iload_n hx hb d_C_ceiling_18 rfl (lv_at hl 1 rfl) ?_
      have hi3 : vp_in p1 6 := (by first | with_reducible assumption | exact vi_isIn7 (by with_reducible assumption) | exact vi_isThing (by with_reducible assumption) | exact vi_decl (by with_reducible assumption) | exact vi_ready (by with_reducible assumption) | exact vi_run (by with_reducible assumption) (by with_reducible assumption) | exact vi_run (by with_reducible assumption) (vi_runner _) | exact vi_mTask (by with_reducible assumption) | exact vi_mThing (by with_reducible assumption) | exact vi_mdecl (by with_reducible assumption) | exact vi_mready (by with_reducible assumption))
      refine va_aldq hx hb hK hP 2 2 cw_2 rfl hi3 d_C_ceiling_19 ?_
      have hj4 : p1.toNatClampNeg < 6 := vi_lt hi3
      refine W.eq (g2 := F0 m 20 ls [.ref (ad (21 + p1.toNatClampNeg))]) rfl ?_
      refine va_getN (D := D) (ci := 2) (v := .int (st (21 + p1.toNatClampNeg) 0)) (C := R_H) (T := F_H) (N := 4) hx hb hts in_H hown hK hP (21 + p1.toNatClampNeg) (cw_h hj4) rfl 0 (by decide) (va_Nw.use rfl (hN _ nk_C_87)) (fun _ h9 => h9) rfl d_C_ceiling_20 ?_
      refine lv_goto (tgt := 27) hx hb d_C_ceiling_23 (by decide) ?_
      exact W.iret (v := (st (21 + p1.toNatClampNeg) 0)) hx hb hr (fun t ht _ => ⟨by rw [he], ht⟩) (fun _ h => nomatch h) d_C_ceiling_27
set_option maxHeartbeats 4000000 in
set_option maxRecDepth 100000 in
theorem c_C_holder (l : Launch) (D : va_G) (cI cT cH : ClassId) (ad : Nat → Nat) (st : St) (p1 : Int32) : Met l y_C_holder w_C_holder { frames := 2, cells := 0, slots := 0, locals := 42 } (va_Pc [.ref (ad 0), .int p1] (gW D cI cT cH (cw cI cT cH ad st))) (QcRead (f_C_holder st p1)) 0 0 (fun _ => False) := by
  refine Met.ofW (cc := b_C_holder) (maxL := 2) (ret := (some .int)) (by decide +kernel) rfl ?_
  intro p e s m args below meth c s₁ B hml hv
  obtain ⟨rfl, hP, hK, hN⟩ := hv
  have hx := B.exec
  have hb := B.bytes
  have hr := B.returns
  have hlocks := B.notSynchronized
  have hts0 := atoms_spec (ws := w_C_holder) B.pre
  have hts : ∀ w ∈ TT, w.before [.ref (ad 0), .int p1].toArray s = true := fun w h => hts0 w (List.mem_cons_of_mem _ h)
  have hown : s.vm.findClass R_C = some m.cls := findClass_of_methodNamed B.named
  have hl := lv_entry ([.ref (ad 0), .int p1]) (n := 2) (Nat.le_of_ble_eq_true rfl)
  rw [lg_entry_eq]
  generalize (lg_sl ([.ref (ad 0), .int p1]) ++ List.replicate (2 - (lg_sl ([.ref (ad 0), .int p1])).length) Slot.unset).toArray = ls at hl ⊢
  have hl : lv_has ls 2 [(0, .ref (ad 0)), (1, .int p1)] := hl
  have he := f_C_holder.eq_1 st p1
  refine lv_iload_n hx hb d_C_holder_0 rfl (lv_at hl 1 rfl) ?_
  refine rdS (As := [.int p1]) (rest := []) (na := 1) (c_C_isThing l p1 ) ⟨hx, hb, hml, hown, hts⟩ k_186 k_187 k_24 k_188 (by decide +kernel) (by decide) (by decide) rfl hl.1 rfl (Nat.le_of_ble_eq_true rfl) d_C_holder_1 ?_
  refine lv_if_eq (tgt := 19) hx hb d_C_holder_4 (by decide) (fun hc1 => ?_) (fun hc1 => ?_)
  · have he := he.trans (if_pos hc1)
    refine lv_iconst (v := (-1)) hx hb d_C_holder_19 (by decide) ?_
    exact W.iret (v := (-1)) hx hb hr (fun t ht _ => ⟨by rw [he], ht⟩) (fun _ h => nomatch h) d_C_holder_20
  · have he := he.trans (if_neg hc1)
    refine lv_aload_n hx hb d_C_holder_7 rfl (lv_at hl 0 rfl) ?_
    refine va_get (D := D) (ci := 0) (v := .ref (ad 2)) (C := R_C) (T := F_C) (N := 7) hx hb hts in_C hown hK hP 0 cw_0 rfl 1 (by decide) (hts _ k_130) (fun _ h9 => h9) rfl d_C_holder_8 ?_
    refine lv_iload_n hx hb d_C_holder_11 rfl (lv_at hl 1 rfl) ?_
    have hi2 : vp_in p1 6 := (by first | with_reducible assumption | exact vi_isIn7 (by with_reducible assumption) | exact vi_isThing (by with_reducible assumption) | exact vi_decl (by with_reducible assumption) | exact vi_ready (by with_reducible assumption) | exact vi_run (by with_reducible assumption) (by with_reducible assumption) | exact vi_run (by with_reducible assumption) (vi_runner _) | exact vi_mTask (by with_reducible assumption) | exact vi_mThing (by with_reducible assumption) | exact vi_mdecl (by with_reducible assumption) | exact vi_mready (by with_reducible assumption))
    refine va_aldq hx hb hK hP 2 2 cw_2 rfl hi2 d_C_holder_12 ?_
    have hj3 : p1.toNatClampNeg < 6 := vi_lt hi2
    refine W.eq (g2 := F0 m 13 ls [.ref (ad (21 + p1.toNatClampNeg))]) rfl ?_
    refine va_getN (D := D) (ci := 2) (v := .int (st (21 + p1.toNatClampNeg) 1)) (C := R_H) (T := F_H) (N := 4) hx hb hts in_H hown hK hP (21 + p1.toNatClampNeg) (cw_h hj3) rfl 1 (by decide) (va_Nw.use rfl (hN _ nk_C_119)) (fun _ h9 => h9) rfl d_C_holder_13 ?_
    refine lv_goto (tgt := 20) hx hb d_C_holder_16 (by decide) ?_
    exact W.iret (v := (st (21 + p1.toNatClampNeg) 1)) hx hb hr (fun t ht _ => ⟨by rw [he], ht⟩) (fun _ h => nomatch h) d_C_holder_20
set_option maxHeartbeats 4000000 in
set_option maxRecDepth 100000 in
theorem c_C_spent (l : Launch) (D : va_G) (cI cT cH : ClassId) (ad : Nat → Nat) (st : St) (p1 : Int32) (p2 : Int32) : Met l y_C_spent w_C_spent { frames := 2, cells := 0, slots := 0, locals := 43 } (va_Pc [.ref (ad 0), .int p1, .int p2] (gW D cI cT cH (cw cI cT cH ad st))) (QcRead (f_C_spent st p1 p2)) 0 0 (fun _ => False) := by
  refine Met.ofW (cc := b_C_spent) (maxL := 3) (ret := (some .int)) (by decide +kernel) rfl ?_
  intro p e s m args below meth c s₁ B hml hv
  obtain ⟨rfl, hP, hK, hN⟩ := hv
  have hx := B.exec
  have hb := B.bytes
  have hr := B.returns
  have hlocks := B.notSynchronized
  have hts0 := atoms_spec (ws := w_C_spent) B.pre
  have hts : ∀ w ∈ TT, w.before [.ref (ad 0), .int p1, .int p2].toArray s = true := fun w h => hts0 w (List.mem_cons_of_mem _ h)
  have hown : s.vm.findClass R_C = some m.cls := findClass_of_methodNamed B.named
  have hl := lv_entry ([.ref (ad 0), .int p1, .int p2]) (n := 3) (Nat.le_of_ble_eq_true rfl)
  rw [lg_entry_eq]
  generalize (lg_sl ([.ref (ad 0), .int p1, .int p2]) ++ List.replicate (3 - (lg_sl ([.ref (ad 0), .int p1, .int p2])).length) Slot.unset).toArray = ls at hl ⊢
  have hl : lv_has ls 3 [(0, .ref (ad 0)), (1, .int p1), (2, .int p2)] := hl
  have he := f_C_spent.eq_1 st p1 p2
  refine lv_aload_n hx hb d_C_spent_0 rfl (lv_at hl 0 rfl) ?_
  refine lv_iload_n hx hb d_C_spent_1 rfl (lv_at hl 1 rfl) ?_
  refine rdV (As := [.int p1]) (rest := []) (na := 1) (c_C_isDeclared l D cI cT cH ad st p1 ) ⟨hx, hb, hml, hown, hts⟩ k_159 k_161 k_0 k_24 k_162 (by decide +kernel) (by decide) (by decide) hP hK hN (q0 := 0) (ci := 0) cw_0 rfl rfl hl.1 rfl (Nat.le_of_ble_eq_true rfl) d_C_spent_2 ?_
  refine lv_if_ne (tgt := 10) hx hb d_C_spent_5 (by decide) (fun hc1 => ?_) (fun hc1 => ?_)
  · have he := he.trans (if_neg hc1)
    refine lv_iload_n hx hb d_C_spent_10 rfl (lv_at hl 2 rfl) ?_
    refine lv_if_ne (tgt := 24) hx hb d_C_spent_11 (by decide) (fun hc2 => ?_) (fun hc2 => ?_)
    · have he := he.trans (if_neg hc2)
      refine lv_iload_n hx hb d_C_spent_24 rfl (lv_at hl 2 rfl) ?_
      refine lv_iconst (v := 1) hx hb d_C_spent_25 (by decide) ?_
      refine lv_icmp_ne (tgt := 41) hx hb d_C_spent_26 (by decide) (fun hc3 => ?_) (fun hc3 => ?_)
      · have he := he.trans (if_neg hc3)
        refine lv_iconst (v := 0) hx hb d_C_spent_41 (by decide) ?_
        exact W.iret (v := 0) hx hb hr (fun t ht _ => ⟨by rw [he], ht⟩) (fun _ h => nomatch h) d_C_spent_42
      · have he := he.trans (if_pos hc3)
        refine lv_aload_n hx hb d_C_spent_29 rfl (lv_at hl 0 rfl) ?_
        refine va_get (D := D) (ci := 0) (v := .ref (ad 1)) (C := R_C) (T := F_C) (N := 7) hx hb hts in_C hown hK hP 0 cw_0 rfl 0 (by decide) (hts _ k_129) (fun _ h9 => h9) rfl d_C_spent_30 ?_
        refine lv_iload_n hx hb d_C_spent_33 rfl (lv_at hl 1 rfl) ?_
        have hi4 : vp_in p1 8 := (by first | with_reducible assumption | exact vi_isIn7 (by with_reducible assumption) | exact vi_isThing (by with_reducible assumption) | exact vi_decl (by with_reducible assumption) | exact vi_ready (by with_reducible assumption) | exact vi_run (by with_reducible assumption) (by with_reducible assumption) | exact vi_run (by with_reducible assumption) (vi_runner _) | exact vi_mTask (by with_reducible assumption) | exact vi_mThing (by with_reducible assumption) | exact vi_mdecl (by with_reducible assumption) | exact vi_mready (by with_reducible assumption))
        refine va_aldq hx hb hK hP 1 1 cw_1 rfl hi4 d_C_spent_34 ?_
        have hj5 : p1.toNatClampNeg < 8 := vi_lt hi4
        refine W.eq (g2 := F0 m 35 ls [.ref (ad (5 + 2 * p1.toNatClampNeg))]) rfl ?_
        refine va_getN (D := D) (ci := 1) (v := .int (st (5 + 2 * p1.toNatClampNeg) 9)) (C := R_T) (T := F_T) (N := 10) hx hb hts in_T hown hK hP (5 + 2 * p1.toNatClampNeg) (cw_k hj5) rfl 9 (by decide) (va_Nw.use rfl (hN _ nk_C_162)) (fun _ h9 => h9) rfl d_C_spent_35 ?_
        refine lv_goto (tgt := 42) hx hb d_C_spent_38 (by decide) ?_
        exact W.iret (v := (st (5 + 2 * p1.toNatClampNeg) 9)) hx hb hr (fun t ht _ => ⟨by rw [he], ht⟩) (fun _ h => nomatch h) d_C_spent_42
    · have he := he.trans (if_pos hc2)
      refine lv_aload_n hx hb d_C_spent_14 rfl (lv_at hl 0 rfl) ?_
      refine va_get (D := D) (ci := 0) (v := .ref (ad 1)) (C := R_C) (T := F_C) (N := 7) hx hb hts in_C hown hK hP 0 cw_0 rfl 0 (by decide) (hts _ k_129) (fun _ h9 => h9) rfl d_C_spent_15 ?_
      refine lv_iload_n hx hb d_C_spent_18 rfl (lv_at hl 1 rfl) ?_
      have hi6 : vp_in p1 8 := (by first | with_reducible assumption | exact vi_isIn7 (by with_reducible assumption) | exact vi_isThing (by with_reducible assumption) | exact vi_decl (by with_reducible assumption) | exact vi_ready (by with_reducible assumption) | exact vi_run (by with_reducible assumption) (by with_reducible assumption) | exact vi_run (by with_reducible assumption) (vi_runner _) | exact vi_mTask (by with_reducible assumption) | exact vi_mThing (by with_reducible assumption) | exact vi_mdecl (by with_reducible assumption) | exact vi_mready (by with_reducible assumption))
      refine va_aldq hx hb hK hP 1 1 cw_1 rfl hi6 d_C_spent_19 ?_
      have hj7 : p1.toNatClampNeg < 8 := vi_lt hi6
      refine W.eq (g2 := F0 m 20 ls [.ref (ad (5 + 2 * p1.toNatClampNeg))]) rfl ?_
      refine va_getN (D := D) (ci := 1) (v := .int (st (5 + 2 * p1.toNatClampNeg) 8)) (C := R_T) (T := F_T) (N := 10) hx hb hts in_T hown hK hP (5 + 2 * p1.toNatClampNeg) (cw_k hj7) rfl 8 (by decide) (va_Nw.use rfl (hN _ nk_C_149)) (fun _ h9 => h9) rfl d_C_spent_20 ?_
      exact W.iret (v := (st (5 + 2 * p1.toNatClampNeg) 8)) hx hb hr (fun t ht _ => ⟨by rw [he], ht⟩) (fun _ h => nomatch h) d_C_spent_23
  · have he := he.trans (if_pos hc1)
    refine lv_iconst (v := 0) hx hb d_C_spent_8 (by decide) ?_
    exact W.iret (v := 0) hx hb hr (fun t ht _ => ⟨by rw [he], ht⟩) (fun _ h => nomatch h) d_C_spent_9
set_option maxHeartbeats 4000000 in
set_option maxRecDepth 100000 in
theorem c_C_blocking (l : Launch) (D : va_G) (cI cT cH : ClassId) (ad : Nat → Nat) (st : St) (p1 : Int32) : Met l y_C_blocking w_C_blocking { frames := 3, cells := 0, slots := 0, locals := 68 } (va_Pc [.ref (ad 0), .int p1] (gW D cI cT cH (cw cI cT cH ad st))) (QcRead (f_C_blocking st p1)) 0 0 (fun _ => False) := by
  refine Met.ofW (cc := b_C_blocking) (maxL := 2) (ret := (some .int)) (by decide +kernel) rfl ?_
  intro p e s m args below meth c s₁ B hml hv
  obtain ⟨rfl, hP, hK, hN⟩ := hv
  have hx := B.exec
  have hb := B.bytes
  have hr := B.returns
  have hlocks := B.notSynchronized
  have hts0 := atoms_spec (ws := w_C_blocking) B.pre
  have hts : ∀ w ∈ TT, w.before [.ref (ad 0), .int p1].toArray s = true := fun w h => hts0 w (List.mem_cons_of_mem _ h)
  have hown : s.vm.findClass R_C = some m.cls := findClass_of_methodNamed B.named
  have hl := lv_entry ([.ref (ad 0), .int p1]) (n := 2) (Nat.le_of_ble_eq_true rfl)
  rw [lg_entry_eq]
  generalize (lg_sl ([.ref (ad 0), .int p1]) ++ List.replicate (2 - (lg_sl ([.ref (ad 0), .int p1])).length) Slot.unset).toArray = ls at hl ⊢
  have hl : lv_has ls 2 [(0, .ref (ad 0)), (1, .int p1)] := hl
  have he := f_C_blocking.eq_1 st p1
  refine lv_aload_n hx hb d_C_blocking_0 rfl (lv_at hl 0 rfl) ?_
  refine va_get (D := D) (ci := 0) (v := .int (st 0 3)) (C := R_C) (T := F_C) (N := 7) hx hb hts in_C hown hK hP 0 cw_0 rfl 3 (by decide) (hts _ k_132) (fun _ h9 => h9) rfl d_C_blocking_1 ?_
  refine lv_if_eq (tgt := 31) hx hb d_C_blocking_4 (by decide) (fun hc1 => ?_) (fun hc1 => ?_)
  · have he := he.trans (if_pos hc1)
    refine lv_iconst (v := (-1)) hx hb d_C_blocking_31 (by decide) ?_
    exact W.iret (v := (-1)) hx hb hr (fun t ht _ => ⟨by rw [he], ht⟩) (fun _ h => nomatch h) d_C_blocking_32
  · have he := he.trans (if_neg hc1)
    refine lv_aload_n hx hb d_C_blocking_7 rfl (lv_at hl 0 rfl) ?_
    refine lv_iload_n hx hb d_C_blocking_8 rfl (lv_at hl 1 rfl) ?_
    refine rdV (As := [.int p1]) (rest := []) (na := 1) (c_C_isDeclared l D cI cT cH ad st p1 ) ⟨hx, hb, hml, hown, hts⟩ k_159 k_161 k_0 k_24 k_162 (by decide +kernel) (by decide) (by decide) hP hK hN (q0 := 0) (ci := 0) cw_0 rfl rfl hl.1 rfl (Nat.le_of_ble_eq_true rfl) d_C_blocking_9 ?_
    refine lv_if_eq (tgt := 31) hx hb d_C_blocking_12 (by decide) (fun hc2 => ?_) (fun hc2 => ?_)
    · have he := he.trans (if_pos hc2)
      refine lv_iconst (v := (-1)) hx hb d_C_blocking_31 (by decide) ?_
      exact W.iret (v := (-1)) hx hb hr (fun t ht _ => ⟨by rw [he], ht⟩) (fun _ h => nomatch h) d_C_blocking_32
    · have he := he.trans (if_neg hc2)
      refine lv_aload_n hx hb d_C_blocking_15 rfl (lv_at hl 0 rfl) ?_
      refine lv_aload_n hx hb d_C_blocking_16 rfl (lv_at hl 0 rfl) ?_
      refine va_get (D := D) (ci := 0) (v := .ref (ad 1)) (C := R_C) (T := F_C) (N := 7) hx hb hts in_C hown hK hP 0 cw_0 rfl 0 (by decide) (hts _ k_129) (fun _ h9 => h9) rfl d_C_blocking_17 ?_
      refine lv_iload_n hx hb d_C_blocking_20 rfl (lv_at hl 1 rfl) ?_
      have hi3 : vp_in p1 8 := (by first | with_reducible assumption | exact vi_isIn7 (by with_reducible assumption) | exact vi_isThing (by with_reducible assumption) | exact vi_decl (by with_reducible assumption) | exact vi_ready (by with_reducible assumption) | exact vi_run (by with_reducible assumption) (by with_reducible assumption) | exact vi_run (by with_reducible assumption) (vi_runner _) | exact vi_mTask (by with_reducible assumption) | exact vi_mThing (by with_reducible assumption) | exact vi_mdecl (by with_reducible assumption) | exact vi_mready (by with_reducible assumption))
      refine va_aldq hx hb hK hP 1 1 cw_1 rfl hi3 d_C_blocking_21 ?_
      have hj4 : p1.toNatClampNeg < 8 := vi_lt hi3
      refine W.eq (g2 := F0 m 22 ls [.ref (ad (5 + 2 * p1.toNatClampNeg)), .ref (ad 0)]) rfl ?_
      refine va_getN (D := D) (ci := 1) (v := .int (st (5 + 2 * p1.toNatClampNeg) 0)) (C := R_T) (T := F_T) (N := 10) hx hb hts in_T hown hK hP (5 + 2 * p1.toNatClampNeg) (cw_k hj4) rfl 0 (by decide) (va_Nw.use rfl (hN _ nk_C_64)) (fun _ h9 => h9) rfl d_C_blocking_22 ?_
      refine rdV (As := [.int (st (5 + 2 * p1.toNatClampNeg) 0)]) (rest := []) (na := 1) (c_C_longestBlockingAt l D cI cT cH ad st (st (5 + 2 * p1.toNatClampNeg) 0) ) ⟨hx, hb, hml, hown, hts⟩ k_201 k_203 k_2 k_24 k_204 (by decide +kernel) (by decide) (by decide) hP hK hN (q0 := 0) (ci := 0) cw_0 rfl rfl hl.1 rfl (Nat.le_of_ble_eq_true rfl) d_C_blocking_25 ?_
      refine lv_goto (tgt := 32) hx hb d_C_blocking_28 (by decide) ?_
      exact W.iret (v := (f_C_longestBlockingAt st (st (5 + 2 * p1.toNatClampNeg) 0))) hx hb hr (fun t ht _ => ⟨by rw [he], ht⟩) (fun _ h => nomatch h) d_C_blocking_32
set_option maxHeartbeats 4000000 in
set_option maxRecDepth 100000 in
theorem c_C_response (l : Launch) (D : va_G) (cI cT cH : ClassId) (ad : Nat → Nat) (st : St) (p1 : Int32) (hy0 : ∀ j, j < 8 → (st (5 + 2 * j) 2).toNatClampNeg < 1000) : Met l y_C_response w_C_response { frames := 3, cells := 0, slots := 0, locals := 68 } (va_Pc [.ref (ad 0), .int p1] (gW D cI cT cH (cw cI cT cH ad st))) (QcRead (f_C_response st p1)) 0 0 (fun _ => False) := by
  refine Met.ofW (cc := b_C_response) (maxL := 4) (ret := (some .int)) (by decide +kernel) rfl ?_
  intro p e s m args below meth c s₁ B hml hv
  obtain ⟨rfl, hP, hK, hN⟩ := hv
  have hx := B.exec
  have hb := B.bytes
  have hr := B.returns
  have hlocks := B.notSynchronized
  have hts0 := atoms_spec (ws := w_C_response) B.pre
  have hts : ∀ w ∈ TT, w.before [.ref (ad 0), .int p1].toArray s = true := fun w h => hts0 w (List.mem_cons_of_mem _ h)
  have hown : s.vm.findClass R_C = some m.cls := findClass_of_methodNamed B.named
  have hl := lv_entry ([.ref (ad 0), .int p1]) (n := 4) (Nat.le_of_ble_eq_true rfl)
  rw [lg_entry_eq]
  generalize (lg_sl ([.ref (ad 0), .int p1]) ++ List.replicate (4 - (lg_sl ([.ref (ad 0), .int p1])).length) Slot.unset).toArray = ls at hl ⊢
  have hl : lv_has ls 4 [(0, .ref (ad 0)), (1, .int p1)] := hl
  have L43 : ∀ (n i : Nat) (v2 : Int32) (ls : Array Slot), i + n = (st (5 + 2 * p1.toNatClampNeg) 2).toNatClampNeg + 1 → 1 ≤ i → lv_has ls 4 [(0, .ref (ad 0)), (1, .int p1), (2, .int v2), (3, .int (nI i))] → (vp_in p1 8) → f_C_response st p1 = f_C_response_L43 n i st p1 v2 → W p l e (headSpec w_C_response { frames := 3, cells := 0, slots := 0, locals := 68 }).room s m [.ref (ad 0), .int p1].toArray below meth c s.heap [] 0 0 (MQ below (QcRead (f_C_response st p1)) [.ref (ad 0), .int p1].toArray s 0 0 (fun _ => False)) (F0 m 43 ls []) := by
    intro n
    induction n with
    | zero =>
      intro i v2 ls hcnt hone hl g0 he
      rw [f_C_response_L43] at he
      refine lv_iload_n hx hb d_C_response_43 rfl (lv_at hl 3 rfl) ?_
      refine lv_aload_n hx hb d_C_response_44 rfl (lv_at hl 0 rfl) ?_
      refine va_get (D := D) (ci := 0) (v := .ref (ad 1)) (C := R_C) (T := F_C) (N := 7) hx hb hts in_C hown hK hP 0 cw_0 rfl 0 (by decide) (hts _ k_129) (fun _ h9 => h9) rfl d_C_response_45 ?_
      refine lv_iload_n hx hb d_C_response_48 rfl (lv_at hl 1 rfl) ?_
      have hi1 : vp_in p1 8 := (by first | with_reducible assumption | exact vi_isIn7 (by with_reducible assumption) | exact vi_isThing (by with_reducible assumption) | exact vi_decl (by with_reducible assumption) | exact vi_ready (by with_reducible assumption) | exact vi_run (by with_reducible assumption) (by with_reducible assumption) | exact vi_run (by with_reducible assumption) (vi_runner _) | exact vi_mTask (by with_reducible assumption) | exact vi_mThing (by with_reducible assumption) | exact vi_mdecl (by with_reducible assumption) | exact vi_mready (by with_reducible assumption))
      refine va_aldq hx hb hK hP 1 1 cw_1 rfl hi1 d_C_response_49 ?_
      have hj2 : p1.toNatClampNeg < 8 := vi_lt hi1
      refine W.eq (g2 := F0 m 50 ls [.ref (ad (5 + 2 * p1.toNatClampNeg)), .int (nI i)]) rfl ?_
      refine va_getN (D := D) (ci := 1) (v := .int (st (5 + 2 * p1.toNatClampNeg) 2)) (C := R_T) (T := F_T) (N := 10) hx hb hts in_T hown hK hP (5 + 2 * p1.toNatClampNeg) (cw_k hj2) rfl 2 (by decide) (va_Nw.use rfl (hN _ nk_C_70)) (fun _ h9 => h9) rfl d_C_response_50 ?_
      refine lv_icmp_gt (tgt := 76) hx hb d_C_response_53 (by decide) (fun _ => ?_) (fun h9 => absurd (rs_lt hcnt (hy0 _ (vi_lt g0))) h9)
      refine lv_iconst (v := (-1)) hx hb d_C_response_76 (by decide) ?_
      exact W.iret (v := (-1)) hx hb hr (fun t ht _ => ⟨by rw [he], ht⟩) (fun _ h => nomatch h) d_C_response_77
    | succ n ih =>
      intro i v2 ls hcnt hone hl g0 he
      rw [f_C_response_L43] at he
      refine lv_iload_n hx hb d_C_response_43 rfl (lv_at hl 3 rfl) ?_
      refine lv_aload_n hx hb d_C_response_44 rfl (lv_at hl 0 rfl) ?_
      refine va_get (D := D) (ci := 0) (v := .ref (ad 1)) (C := R_C) (T := F_C) (N := 7) hx hb hts in_C hown hK hP 0 cw_0 rfl 0 (by decide) (hts _ k_129) (fun _ h9 => h9) rfl d_C_response_45 ?_
      refine lv_iload_n hx hb d_C_response_48 rfl (lv_at hl 1 rfl) ?_
      have hi3 : vp_in p1 8 := (by first | with_reducible assumption | exact vi_isIn7 (by with_reducible assumption) | exact vi_isThing (by with_reducible assumption) | exact vi_decl (by with_reducible assumption) | exact vi_ready (by with_reducible assumption) | exact vi_run (by with_reducible assumption) (by with_reducible assumption) | exact vi_run (by with_reducible assumption) (vi_runner _) | exact vi_mTask (by with_reducible assumption) | exact vi_mThing (by with_reducible assumption) | exact vi_mdecl (by with_reducible assumption) | exact vi_mready (by with_reducible assumption))
      refine va_aldq hx hb hK hP 1 1 cw_1 rfl hi3 d_C_response_49 ?_
      have hj4 : p1.toNatClampNeg < 8 := vi_lt hi3
      refine W.eq (g2 := F0 m 50 ls [.ref (ad (5 + 2 * p1.toNatClampNeg)), .int (nI i)]) rfl ?_
      refine va_getN (D := D) (ci := 1) (v := .int (st (5 + 2 * p1.toNatClampNeg) 2)) (C := R_T) (T := F_T) (N := 10) hx hb hts in_T hown hK hP (5 + 2 * p1.toNatClampNeg) (cw_k hj4) rfl 2 (by decide) (va_Nw.use rfl (hN _ nk_C_70)) (fun _ h9 => h9) rfl d_C_response_50 ?_
      refine lv_icmp_gt (tgt := 76) hx hb d_C_response_53 (by decide) (fun h9 => absurd h9 (rs_ge hcnt hone (hy0 _ (vi_lt g0)))) (fun _ => ?_)
      refine lv_iload_n hx hb d_C_response_56 rfl (lv_at hl 2 rfl) ?_
      refine lv_aload_n hx hb d_C_response_57 rfl (lv_at hl 0 rfl) ?_
      refine lv_iload_n hx hb d_C_response_58 rfl (lv_at hl 1 rfl) ?_
      refine lv_iload_n hx hb d_C_response_59 rfl (lv_at hl 3 rfl) ?_
      refine rdV (As := [.int p1, .int (nI i)]) (rest := [.int v2]) (na := 2) (c_C_demandOfOthers l D cI cT cH ad st p1 (nI i) (by first | with_reducible assumption | exact vi_isIn7 (by with_reducible assumption) | exact vi_isThing (by with_reducible assumption) | exact vi_decl (by with_reducible assumption) | exact vi_ready (by with_reducible assumption) | exact vi_run (by with_reducible assumption) (by with_reducible assumption) | exact vi_run (by with_reducible assumption) (vi_runner _) | exact vi_mTask (by with_reducible assumption) | exact vi_mThing (by with_reducible assumption) | exact vi_mdecl (by with_reducible assumption) | exact vi_mready (by with_reducible assumption))) ⟨hx, hb, hml, hown, hts⟩ k_216 k_218 k_4 k_24 k_219 (by decide +kernel) (by decide) (by decide) hP hK hN (q0 := 0) (ci := 0) cw_0 rfl rfl hl.1 rfl (Nat.le_of_ble_eq_true rfl) d_C_response_60 ?_
      refine lv_iadd hx hb d_C_response_63 ?_
      refine lv_iload_n hx hb d_C_response_64 rfl (lv_at hl 3 rfl) ?_
      refine lv_icmp_ne (tgt := 70) hx hb d_C_response_65 (by decide) (fun hc5 => ?_) (fun hc5 => ?_)
      · have he := he.trans (if_neg hc5)
        refine lv_iinc (k := 3) (v := (nI (i + 1))) hx hb d_C_response_70 hl rfl (by first | rfl | (rw [nI_succ]; rfl)) (by decide) rfl (fun ls hl => ?_)
        have hl : lv_has ls 4 [(3, .int (nI (i + 1))), (0, .ref (ad 0)), (1, .int p1), (2, .int v2)] := hl
        refine lv_goto (tgt := 43) hx hb d_C_response_73 (by decide) ?_
        exact ih (i + 1) v2 ls (by omega) (by omega) (lv_sub hl [1, 2, 3, 0] rfl) (by first | with_reducible assumption | exact Or.inl rfl | exact (fun h9 => absurd h9 (by decide)) | exact (fun h9 => absurd rfl h9) | exact vi_runner _ | exact Or.inr (vp_in_nI (by omega) (by decide)) | exact Or.inr (by first | with_reducible assumption | exact vi_isIn7 (by with_reducible assumption) | exact vi_isThing (by with_reducible assumption) | exact vi_decl (by with_reducible assumption) | exact vi_ready (by with_reducible assumption) | exact vi_run (by with_reducible assumption) (by with_reducible assumption) | exact vi_run (by with_reducible assumption) (vi_runner _) | exact vi_mTask (by with_reducible assumption) | exact vi_mThing (by with_reducible assumption) | exact vi_mdecl (by with_reducible assumption) | exact vi_mready (by with_reducible assumption)) | exact (fun _ => ⟨(by first | with_reducible assumption | exact vi_isIn7 (by with_reducible assumption) | exact vi_isThing (by with_reducible assumption) | exact vi_decl (by with_reducible assumption) | exact vi_ready (by with_reducible assumption) | exact vi_run (by with_reducible assumption) (by with_reducible assumption) | exact vi_run (by with_reducible assumption) (vi_runner _) | exact vi_mTask (by with_reducible assumption) | exact vi_mThing (by with_reducible assumption) | exact vi_mdecl (by with_reducible assumption) | exact vi_mready (by with_reducible assumption)), (by first | with_reducible assumption | exact vi_isIn7 (by with_reducible assumption) | exact vi_isThing (by with_reducible assumption) | exact vi_decl (by with_reducible assumption) | exact vi_ready (by with_reducible assumption) | exact vi_run (by with_reducible assumption) (by with_reducible assumption) | exact vi_run (by with_reducible assumption) (vi_runner _) | exact vi_mTask (by with_reducible assumption) | exact vi_mThing (by with_reducible assumption) | exact vi_mdecl (by with_reducible assumption) | exact vi_mready (by with_reducible assumption))⟩) | exact (fun _ => ⟨vi_latest (by with_reducible assumption) (by with_reducible assumption), vi_run (by with_reducible assumption) (by with_reducible assumption)⟩) | exact (fun _ => (by with_reducible assumption : ¬ v4 = 0 → _) (by with_reducible assumption)) | exact (fun _ => (by first | with_reducible assumption | exact vi_isIn7 (by with_reducible assumption) | exact vi_isThing (by with_reducible assumption) | exact vi_decl (by with_reducible assumption) | exact vi_ready (by with_reducible assumption) | exact vi_run (by with_reducible assumption) (by with_reducible assumption) | exact vi_run (by with_reducible assumption) (vi_runner _) | exact vi_mTask (by with_reducible assumption) | exact vi_mThing (by with_reducible assumption) | exact vi_mdecl (by with_reducible assumption) | exact vi_mready (by with_reducible assumption))) | exact (by first | with_reducible assumption | exact vi_isIn7 (by with_reducible assumption) | exact vi_isThing (by with_reducible assumption) | exact vi_decl (by with_reducible assumption) | exact vi_ready (by with_reducible assumption) | exact vi_run (by with_reducible assumption) (by with_reducible assumption) | exact vi_run (by with_reducible assumption) (vi_runner _) | exact vi_mTask (by with_reducible assumption) | exact vi_mThing (by with_reducible assumption) | exact vi_mdecl (by with_reducible assumption) | exact vi_mready (by with_reducible assumption))) he
      · have he := he.trans (if_pos hc5)
        refine lv_iload_n hx hb d_C_response_68 rfl (lv_at hl 3 rfl) ?_
        exact W.iret (v := (nI i)) hx hb hr (fun t ht _ => ⟨by rw [he], ht⟩) (fun _ h => nomatch h) d_C_response_69
  have he := f_C_response.eq_1 st p1
  refine lv_aload_n hx hb d_C_response_0 rfl (lv_at hl 0 rfl) ?_
  refine va_get (D := D) (ci := 0) (v := .int (st 0 3)) (C := R_C) (T := F_C) (N := 7) hx hb hts in_C hown hK hP 0 cw_0 rfl 3 (by decide) (hts _ k_132) (fun _ h9 => h9) rfl d_C_response_1 ?_
  refine lv_if_eq (tgt := 15) hx hb d_C_response_4 (by decide) (fun hc6 => ?_) (fun hc6 => ?_)
  · have he := he.trans (if_pos hc6)
    refine lv_iconst (v := (-1)) hx hb d_C_response_15 (by decide) ?_
    exact W.iret (v := (-1)) hx hb hr (fun t ht _ => ⟨by rw [he], ht⟩) (fun _ h => nomatch h) d_C_response_16
  · have he := he.trans (if_neg hc6)
    refine lv_aload_n hx hb d_C_response_7 rfl (lv_at hl 0 rfl) ?_
    refine lv_iload_n hx hb d_C_response_8 rfl (lv_at hl 1 rfl) ?_
    refine rdV (As := [.int p1]) (rest := []) (na := 1) (c_C_isDeclared l D cI cT cH ad st p1 ) ⟨hx, hb, hml, hown, hts⟩ k_159 k_161 k_0 k_24 k_162 (by decide +kernel) (by decide) (by decide) hP hK hN (q0 := 0) (ci := 0) cw_0 rfl rfl hl.1 rfl (Nat.le_of_ble_eq_true rfl) d_C_response_9 ?_
    refine lv_if_ne (tgt := 17) hx hb d_C_response_12 (by decide) (fun hc7 => ?_) (fun hc7 => ?_)
    · have he := he.trans (if_neg hc7)
      refine lv_aload_n hx hb d_C_response_17 rfl (lv_at hl 0 rfl) ?_
      refine va_get (D := D) (ci := 0) (v := .ref (ad 1)) (C := R_C) (T := F_C) (N := 7) hx hb hts in_C hown hK hP 0 cw_0 rfl 0 (by decide) (hts _ k_129) (fun _ h9 => h9) rfl d_C_response_18 ?_
      refine lv_iload_n hx hb d_C_response_21 rfl (lv_at hl 1 rfl) ?_
      have hi8 : vp_in p1 8 := (by first | with_reducible assumption | exact vi_isIn7 (by with_reducible assumption) | exact vi_isThing (by with_reducible assumption) | exact vi_decl (by with_reducible assumption) | exact vi_ready (by with_reducible assumption) | exact vi_run (by with_reducible assumption) (by with_reducible assumption) | exact vi_run (by with_reducible assumption) (vi_runner _) | exact vi_mTask (by with_reducible assumption) | exact vi_mThing (by with_reducible assumption) | exact vi_mdecl (by with_reducible assumption) | exact vi_mready (by with_reducible assumption))
      refine va_aldq hx hb hK hP 1 1 cw_1 rfl hi8 d_C_response_22 ?_
      have hj9 : p1.toNatClampNeg < 8 := vi_lt hi8
      refine W.eq (g2 := F0 m 23 ls [.ref (ad (5 + 2 * p1.toNatClampNeg))]) rfl ?_
      refine va_getN (D := D) (ci := 1) (v := .int (st (5 + 2 * p1.toNatClampNeg) 1)) (C := R_T) (T := F_T) (N := 10) hx hb hts in_T hown hK hP (5 + 2 * p1.toNatClampNeg) (cw_k hj9) rfl 1 (by decide) (va_Nw.use rfl (hN _ nk_C_67)) (fun _ h9 => h9) rfl d_C_response_23 ?_
      refine lv_aload_n hx hb d_C_response_26 rfl (lv_at hl 0 rfl) ?_
      refine lv_aload_n hx hb d_C_response_27 rfl (lv_at hl 0 rfl) ?_
      refine va_get (D := D) (ci := 0) (v := .ref (ad 1)) (C := R_C) (T := F_C) (N := 7) hx hb hts in_C hown hK hP 0 cw_0 rfl 0 (by decide) (hts _ k_129) (fun _ h9 => h9) rfl d_C_response_28 ?_
      refine lv_iload_n hx hb d_C_response_31 rfl (lv_at hl 1 rfl) ?_
      have hi10 : vp_in p1 8 := (by first | with_reducible assumption | exact vi_isIn7 (by with_reducible assumption) | exact vi_isThing (by with_reducible assumption) | exact vi_decl (by with_reducible assumption) | exact vi_ready (by with_reducible assumption) | exact vi_run (by with_reducible assumption) (by with_reducible assumption) | exact vi_run (by with_reducible assumption) (vi_runner _) | exact vi_mTask (by with_reducible assumption) | exact vi_mThing (by with_reducible assumption) | exact vi_mdecl (by with_reducible assumption) | exact vi_mready (by with_reducible assumption))
      refine va_aldq hx hb hK hP 1 1 cw_1 rfl hi10 d_C_response_32 ?_
      have hj11 : p1.toNatClampNeg < 8 := vi_lt hi10
      refine W.eq (g2 := F0 m 33 ls [.ref (ad (5 + 2 * p1.toNatClampNeg)), .ref (ad 0), .int (st (5 + 2 * p1.toNatClampNeg) 1)]) rfl ?_
      refine va_getN (D := D) (ci := 1) (v := .int (st (5 + 2 * p1.toNatClampNeg) 0)) (C := R_T) (T := F_T) (N := 10) hx hb hts in_T hown hK hP (5 + 2 * p1.toNatClampNeg) (cw_k hj11) rfl 0 (by decide) (va_Nw.use rfl (hN _ nk_C_64)) (fun _ h9 => h9) rfl d_C_response_33 ?_
      refine rdV (As := [.int (st (5 + 2 * p1.toNatClampNeg) 0)]) (rest := [.int (st (5 + 2 * p1.toNatClampNeg) 1)]) (na := 1) (c_C_longestBlockingAt l D cI cT cH ad st (st (5 + 2 * p1.toNatClampNeg) 0) ) ⟨hx, hb, hml, hown, hts⟩ k_201 k_203 k_2 k_24 k_204 (by decide +kernel) (by decide) (by decide) hP hK hN (q0 := 0) (ci := 0) cw_0 rfl rfl hl.1 rfl (Nat.le_of_ble_eq_true rfl) d_C_response_36 ?_
      refine lv_iadd hx hb d_C_response_39 ?_
      refine lv_istore_n hx hb d_C_response_40 rfl hl (by decide) rfl (fun ls hl => ?_)
      have hl : lv_has ls 4 [(2, .int ((st (5 + 2 * p1.toNatClampNeg) 1) + (f_C_longestBlockingAt st (st (5 + 2 * p1.toNatClampNeg) 0)))), (0, .ref (ad 0)), (1, .int p1)] := hl
      refine lv_iconst (v := 1) hx hb d_C_response_41 (by decide) ?_
      refine lv_istore_n hx hb d_C_response_42 rfl hl (by decide) rfl (fun ls hl => ?_)
      have hl : lv_has ls 4 [(3, .int 1), (2, .int ((st (5 + 2 * p1.toNatClampNeg) 1) + (f_C_longestBlockingAt st (st (5 + 2 * p1.toNatClampNeg) 0)))), (0, .ref (ad 0)), (1, .int p1)] := hl
      exact L43 _ 1 ((st (5 + 2 * p1.toNatClampNeg) 1) + (f_C_longestBlockingAt st (st (5 + 2 * p1.toNatClampNeg) 0))) ls (by first | decide | omega) (by decide) (lv_sub hl [2, 3, 1, 0] rfl) (by first | with_reducible assumption | exact Or.inl rfl | exact (fun h9 => absurd h9 (by decide)) | exact (fun h9 => absurd rfl h9) | exact vi_runner _ | exact Or.inr (vp_in_nI (by omega) (by decide)) | exact Or.inr (by first | with_reducible assumption | exact vi_isIn7 (by with_reducible assumption) | exact vi_isThing (by with_reducible assumption) | exact vi_decl (by with_reducible assumption) | exact vi_ready (by with_reducible assumption) | exact vi_run (by with_reducible assumption) (by with_reducible assumption) | exact vi_run (by with_reducible assumption) (vi_runner _) | exact vi_mTask (by with_reducible assumption) | exact vi_mThing (by with_reducible assumption) | exact vi_mdecl (by with_reducible assumption) | exact vi_mready (by with_reducible assumption)) | exact (fun _ => ⟨(by first | with_reducible assumption | exact vi_isIn7 (by with_reducible assumption) | exact vi_isThing (by with_reducible assumption) | exact vi_decl (by with_reducible assumption) | exact vi_ready (by with_reducible assumption) | exact vi_run (by with_reducible assumption) (by with_reducible assumption) | exact vi_run (by with_reducible assumption) (vi_runner _) | exact vi_mTask (by with_reducible assumption) | exact vi_mThing (by with_reducible assumption) | exact vi_mdecl (by with_reducible assumption) | exact vi_mready (by with_reducible assumption)), (by first | with_reducible assumption | exact vi_isIn7 (by with_reducible assumption) | exact vi_isThing (by with_reducible assumption) | exact vi_decl (by with_reducible assumption) | exact vi_ready (by with_reducible assumption) | exact vi_run (by with_reducible assumption) (by with_reducible assumption) | exact vi_run (by with_reducible assumption) (vi_runner _) | exact vi_mTask (by with_reducible assumption) | exact vi_mThing (by with_reducible assumption) | exact vi_mdecl (by with_reducible assumption) | exact vi_mready (by with_reducible assumption))⟩) | exact (fun _ => ⟨vi_latest (by with_reducible assumption) (by with_reducible assumption), vi_run (by with_reducible assumption) (by with_reducible assumption)⟩) | exact (fun _ => (by with_reducible assumption : ¬ v4 = 0 → _) (by with_reducible assumption)) | exact (fun _ => (by first | with_reducible assumption | exact vi_isIn7 (by with_reducible assumption) | exact vi_isThing (by with_reducible assumption) | exact vi_decl (by with_reducible assumption) | exact vi_ready (by with_reducible assumption) | exact vi_run (by with_reducible assumption) (by with_reducible assumption) | exact vi_run (by with_reducible assumption) (vi_runner _) | exact vi_mTask (by with_reducible assumption) | exact vi_mThing (by with_reducible assumption) | exact vi_mdecl (by with_reducible assumption) | exact vi_mready (by with_reducible assumption))) | exact (by first | with_reducible assumption | exact vi_isIn7 (by with_reducible assumption) | exact vi_isThing (by with_reducible assumption) | exact vi_decl (by with_reducible assumption) | exact vi_ready (by with_reducible assumption) | exact vi_run (by with_reducible assumption) (by with_reducible assumption) | exact vi_run (by with_reducible assumption) (vi_runner _) | exact vi_mTask (by with_reducible assumption) | exact vi_mThing (by with_reducible assumption) | exact vi_mdecl (by with_reducible assumption) | exact vi_mready (by with_reducible assumption))) he
    · have he := he.trans (if_pos hc7)
      refine lv_iconst (v := (-1)) hx hb d_C_response_15 (by decide) ?_
      exact W.iret (v := (-1)) hx hb hr (fun t ht _ => ⟨by rw [he], ht⟩) (fun _ h => nomatch h) d_C_response_16
set_option maxHeartbeats 4000000 in
set_option maxRecDepth 100000 in
theorem c_C_notes (l : Launch) (D : va_G) (cI cT cH : ClassId) (ad : Nat → Nat) (st : St) : Met l y_C_notes w_C_notes { frames := 0, cells := 0, slots := 0, locals := 0 } (va_Pc [.ref (ad 0)] (gW D cI cT cH (cw cI cT cH ad st))) (QcRead (f_C_notes st)) 0 0 (fun _ => False) := by
  refine Met.ofW (cc := b_C_notes) (maxL := 1) (ret := (some .int)) (by decide +kernel) rfl ?_
  intro p e s m args below meth c s₁ B hml hv
  obtain ⟨rfl, hP, hK, hN⟩ := hv
  have hx := B.exec
  have hb := B.bytes
  have hr := B.returns
  have hlocks := B.notSynchronized
  have hts0 := atoms_spec (ws := w_C_notes) B.pre
  have hts : ∀ w ∈ TT, w.before [.ref (ad 0)].toArray s = true := fun w h => hts0 w (List.mem_cons_of_mem _ h)
  have hown : s.vm.findClass R_C = some m.cls := findClass_of_methodNamed B.named
  have hl := lv_entry ([.ref (ad 0)]) (n := 1) (Nat.le_of_ble_eq_true rfl)
  rw [lg_entry_eq]
  generalize (lg_sl ([.ref (ad 0)]) ++ List.replicate (1 - (lg_sl ([.ref (ad 0)])).length) Slot.unset).toArray = ls at hl ⊢
  have hl : lv_has ls 1 [(0, .ref (ad 0))] := hl
  have he := f_C_notes.eq_1 st
  refine lv_aload_n hx hb d_C_notes_0 rfl (lv_at hl 0 rfl) ?_
  refine va_get (D := D) (ci := 0) (v := .ref (ad 3)) (C := R_C) (T := F_C) (N := 7) hx hb hts in_C hown hK hP 0 cw_0 rfl 2 (by decide) (hts _ k_131) (fun _ h9 => h9) rfl d_C_notes_1 ?_
  refine va_getN (D := D) (ci := 3) (v := .int (st 3 1)) (C := R_N) (T := F_N) (N := 2) hx hb hts in_N hown hK hP 3 cw_3 rfl 1 (by decide) (va_Nw.use rfl (hN _ nk_C_171)) (fun _ h9 => h9) rfl d_C_notes_4 ?_
  exact W.iret (v := (st 3 1)) hx hb hr (fun t ht _ => ⟨by rw [he], ht⟩) (fun _ h => nomatch h) d_C_notes_7
set_option maxHeartbeats 4000000 in
set_option maxRecDepth 100000 in
theorem c_C_note (l : Launch) (D : va_G) (cI cT cH : ClassId) (ad : Nat → Nat) (st : St) (p1 : Int32) : Met l y_C_note w_C_note { frames := 2, cells := 0, slots := 0, locals := 43 } (va_Pc [.ref (ad 0), .int p1] (gW D cI cT cH (cw cI cT cH ad st))) (QcRead (f_C_note st p1)) 0 0 (fun _ => False) := by
  refine Met.ofW (cc := b_C_note) (maxL := 2) (ret := (some .int)) (by decide +kernel) rfl ?_
  intro p e s m args below meth c s₁ B hml hv
  obtain ⟨rfl, hP, hK, hN⟩ := hv
  have hx := B.exec
  have hb := B.bytes
  have hr := B.returns
  have hlocks := B.notSynchronized
  have hts0 := atoms_spec (ws := w_C_note) B.pre
  have hts : ∀ w ∈ TT, w.before [.ref (ad 0), .int p1].toArray s = true := fun w h => hts0 w (List.mem_cons_of_mem _ h)
  have hown : s.vm.findClass R_C = some m.cls := findClass_of_methodNamed B.named
  have hl := lv_entry ([.ref (ad 0), .int p1]) (n := 2) (Nat.le_of_ble_eq_true rfl)
  rw [lg_entry_eq]
  generalize (lg_sl ([.ref (ad 0), .int p1]) ++ List.replicate (2 - (lg_sl ([.ref (ad 0), .int p1])).length) Slot.unset).toArray = ls at hl ⊢
  have hl : lv_has ls 2 [(0, .ref (ad 0)), (1, .int p1)] := hl
  have he := f_C_note.eq_1 st p1
  refine lv_aload_n hx hb d_C_note_0 rfl (lv_at hl 0 rfl) ?_
  refine va_get (D := D) (ci := 0) (v := .ref (ad 3)) (C := R_C) (T := F_C) (N := 7) hx hb hts in_C hown hK hP 0 cw_0 rfl 2 (by decide) (hts _ k_131) (fun _ h9 => h9) rfl d_C_note_1 ?_
  refine lv_iload_n hx hb d_C_note_4 rfl (lv_at hl 1 rfl) ?_
  refine rdV (As := [.int p1]) (rest := []) (na := 1) (c_N_fromLatest l D cI cT cH ad st p1 ) ⟨hx, hb, hml, hown, hts⟩ k_233 k_234 k_235 k_25 k_236 (by decide +kernel) (by decide) (by decide) hP hK hN (q0 := 3) (ci := 3) cw_3 rfl rfl hl.1 rfl (Nat.le_of_ble_eq_true rfl) d_C_note_5 ?_
  exact W.iret (v := (f_N_fromLatest st p1)) hx hb hr (fun t ht _ => ⟨by rw [he], ht⟩) (fun _ h => nomatch h) d_C_note_8
