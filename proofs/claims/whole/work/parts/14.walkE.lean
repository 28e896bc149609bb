set_option maxHeartbeats 4000000 in
set_option maxRecDepth 100000 in
theorem c_C_take (l : Launch) (D : va_G) (cI cT cH : ClassId) (ad : Nat → Nat) (st : St) (p1 : Int32) (hl0 : l.stackTraces = false) (hI : ∀ i j, i < 27 → j < 27 → ad i = ad j → i = j) (hy0 : st 0 6 = (-1) ∨ vp_in (st 0 6) 8) : vx_Met l y_C_take w_C_take { frames := 7, cells := 1, slots := 6, locals := 100 } (va_Pc [.ref (ad 0), .int p1] (xW D cI cT cH (cw cI cT cH ad st) (inA ad 27))) (qXI D (f_C_take st p1) (fun z => cw cI cT cH ad z) (inA ad 27)) (qX D (f_C_take st p1) (cw cI cT cH ad st) (inA ad 27)) 1 6 (inA ad 27) := by
  refine vx_ofW (cc := b_C_take) (maxL := 4) (ret := (some .int)) (by decide +kernel) rfl ?_
  intro p e s m args below meth c s₁ B hml hnt hv
  obtain ⟨rfl, ⟨hP, hK, hN⟩, hXU, hXN, hXR, hXT⟩ := hv
  have hx := B.exec
  have hb := B.bytes
  have hr := B.returns
  have hlocks := B.notSynchronized
  have hts0 := atoms_spec (ws := w_C_take) B.pre
  have hts : ∀ w ∈ TT, w.before [.ref (ad 0), .int p1].toArray s = true := fun w h => hts0 w (List.mem_cons_of_mem _ h)
  have hown : s.vm.findClass R_C = some m.cls := findClass_of_methodNamed B.named
  have hS : va_S (inA ad 27) s.heap s.heap [] := va_S.rf
  have hl := lv_entry ([.ref (ad 0), .int p1]) (n := 4) (Nat.le_of_ble_eq_true rfl)
  rw [lg_entry_eq]
  generalize (lg_sl ([.ref (ad 0), .int p1]) ++ List.replicate (4 - (lg_sl ([.ref (ad 0), .int p1])).length) Slot.unset).toArray = ls at hl ⊢
  have hl : lv_has ls 4 [(0, .ref (ad 0)), (1, .int p1)] := hl
  have he := f_C_take.eq_1 st p1
  refine lv_aload_n hx hb d_C_take_0 rfl (lv_at hl 0 rfl) ?_
  refine va_get (D := D) (ci := 0) (v := .int (st 0 3)) (C := R_C) (T := F_C) (N := 7) hx hb hts in_C hown hK hP 0 cw_0 rfl 3 (by decide) (hts _ k_132) (fun _ h9 => h9) rfl d_C_take_1 ?_
  refine lv_if_eq (tgt := 23) hx hb d_C_take_4 (by decide) (fun hc1 => ?_) (fun hc1 => ?_)
  · have he := he.trans (if_pos hc1)
    obtain ⟨sa, hsa⟩ := hXR (112, "not sealed, no task runs, or the thing is held") (List.mem_of_getElem? (i := 6) rfl)
    exact vx_throwS (own := R_C) (cls := eS) (text := "not sealed, no task runs, or the thing is held") (names := xn9) (ik := 48) (is := 112) (ic := 52) (sa := sa) hx hb hl0 hown (by decide) (by decide) (hts _ k_249) (hts _ k_32) hsa (fun w hw => (xat_52 w hw).elim (fun z => hts w z) (fun z => va_Nw.use (xT9_on w z) (hXT w z))) (xgd_52_48) hXU hXN hS (hl.1.trans hml.symm) d_C_take_23 d_C_take_26 d_C_take_27 d_C_take_29 d_C_take_32 (fun x h => (hnt x h).elim) (by decide) (by decide) (by decide) (by decide) hlocks (fun t _ hz hq => ⟨(), trivial, ⟨Or.inl ⟨by rw [he], rfl⟩, hP.kept (fun k q hk => hq _ (vx_lt hP hk))⟩, hz, fun q h1 _ => hq q h1⟩) hS.2.2 (by decide) (by decide)
  · have he := he.trans (if_neg hc1)
    refine lv_aload_n hx hb d_C_take_7 rfl (lv_at hl 0 rfl) ?_
    refine va_get (D := D) (ci := 0) (v := .int (st 0 6)) (C := R_C) (T := F_C) (N := 7) hx hb hts in_C hown hK hP 0 cw_0 rfl 6 (by decide) (hts _ k_135) (fun _ h9 => h9) rfl d_C_take_8 ?_
    refine lv_iconst (v := (-1)) hx hb d_C_take_11 (by decide) ?_
    refine lv_icmp_eq (tgt := 23) hx hb d_C_take_12 (by decide) (fun hc2 => ?_) (fun hc2 => ?_)
    · have he := he.trans (if_pos hc2)
      obtain ⟨sa, hsa⟩ := hXR (112, "not sealed, no task runs, or the thing is held") (List.mem_of_getElem? (i := 6) rfl)
      exact vx_throwS (own := R_C) (cls := eS) (text := "not sealed, no task runs, or the thing is held") (names := xn9) (ik := 48) (is := 112) (ic := 52) (sa := sa) hx hb hl0 hown (by decide) (by decide) (hts _ k_249) (hts _ k_32) hsa (fun w hw => (xat_52 w hw).elim (fun z => hts w z) (fun z => va_Nw.use (xT9_on w z) (hXT w z))) (xgd_52_48) hXU hXN hS (hl.1.trans hml.symm) d_C_take_23 d_C_take_26 d_C_take_27 d_C_take_29 d_C_take_32 (fun x h => (hnt x h).elim) (by decide) (by decide) (by decide) (by decide) hlocks (fun t _ hz hq => ⟨(), trivial, ⟨Or.inl ⟨by rw [he], rfl⟩, hP.kept (fun k q hk => hq _ (vx_lt hP hk))⟩, hz, fun q h1 _ => hq q h1⟩) hS.2.2 (by decide) (by decide)
    · have he := he.trans (if_neg hc2)
      refine lv_aload_n hx hb d_C_take_15 rfl (lv_at hl 0 rfl) ?_
      refine lv_iload_n hx hb d_C_take_16 rfl (lv_at hl 1 rfl) ?_
      refine rdV (As := [.int p1]) (rest := []) (na := 1) (c_C_isHeld l D cI cT cH ad st p1 ) ⟨hx, hb, hml, hown, hts⟩ k_393 k_395 k_10 k_24 k_396 (by decide +kernel) (by decide) (by decide) hP hK hN (q0 := 0) (ci := 0) cw_0 rfl rfl hl.1 rfl (Nat.le_of_ble_eq_true rfl) d_C_take_17 ?_
      refine lv_if_eq (tgt := 33) hx hb d_C_take_20 (by decide) (fun hc3 => ?_) (fun hc3 => ?_)
      · have he := he.trans (if_pos hc3)
        refine lv_iload_n hx hb d_C_take_33 rfl (lv_at hl 1 rfl) ?_
        refine rdS (As := [.int p1]) (rest := []) (na := 1) (c_C_isThing l p1 ) ⟨hx, hb, hml, hown, hts⟩ k_186 k_187 k_24 k_188 (by decide +kernel) (by decide) (by decide) rfl hl.1 rfl (Nat.le_of_ble_eq_true rfl) d_C_take_34 ?_
        refine lv_if_eq (tgt := 56) hx hb d_C_take_37 (by decide) (fun hc4 => ?_) (fun hc4 => ?_)
        · have he := he.trans (if_pos hc4)
          obtain ⟨sa, hsa⟩ := hXR (117, "no such thing, or the task that runs may not use it") (List.mem_of_getElem? (i := 7) rfl)
          exact vx_throwS (own := R_C) (cls := eA) (text := "no such thing, or the task that runs may not use it") (names := xn9) (ik := 59) (is := 117) (ic := 63) (sa := sa) hx hb hl0 hown (by decide) (by decide) (hts _ k_316) (hts _ k_33) hsa (fun w hw => (xat_63 w hw).elim (fun z => hts w z) (fun z => va_Nw.use (xT9_on w z) (hXT w z))) (xgd_63_59) hXU hXN hS (hl.1.trans hml.symm) d_C_take_56 d_C_take_59 d_C_take_60 d_C_take_62 d_C_take_65 (fun x h => (hnt x h).elim) (by decide) (by decide) (by decide) (by decide) hlocks (fun t _ hz hq => ⟨(), trivial, ⟨Or.inr ⟨by rw [he], rfl⟩, hP.kept (fun k q hk => hq _ (vx_lt hP hk))⟩, hz, fun q h1 _ => hq q h1⟩) hS.2.2 (by decide) (by decide)
        · have he := he.trans (if_neg hc4)
          refine lv_aload_n hx hb d_C_take_40 rfl (lv_at hl 0 rfl) ?_
          refine va_get (D := D) (ci := 0) (v := .ref (ad 1)) (C := R_C) (T := F_C) (N := 7) hx hb hts in_C hown hK hP 0 cw_0 rfl 0 (by decide) (hts _ k_129) (fun _ h9 => h9) rfl d_C_take_41 ?_
          refine lv_aload_n hx hb d_C_take_44 rfl (lv_at hl 0 rfl) ?_
          refine va_get (D := D) (ci := 0) (v := .int (st 0 6)) (C := R_C) (T := F_C) (N := 7) hx hb hts in_C hown hK hP 0 cw_0 rfl 6 (by decide) (hts _ k_135) (fun _ h9 => h9) rfl d_C_take_45 ?_
          have hi5 : vp_in (st 0 6) 8 := (by first | with_reducible assumption | exact vi_isIn7 (by with_reducible assumption) | exact vi_isThing (by with_reducible assumption) | exact vi_decl (by with_reducible assumption) | exact vi_ready (by with_reducible assumption) | exact vi_run (by with_reducible assumption) (by with_reducible assumption) | exact vi_run (by with_reducible assumption) (vi_runner _) | exact vi_mTask (by with_reducible assumption) | exact vi_mThing (by with_reducible assumption) | exact vi_mdecl (by with_reducible assumption) | exact vi_mready (by with_reducible assumption))
          refine va_aldq hx hb hK hP 1 1 cw_1 rfl hi5 d_C_take_48 ?_
          have hj6 : (st 0 6).toNatClampNeg < 8 := vi_lt hi5
          refine W.eq (g2 := F0 m 49 ls [.ref (ad (5 + 2 * (st 0 6).toNatClampNeg))]) rfl ?_
          refine lv_iload_n hx hb d_C_take_49 rfl (lv_at hl 1 rfl) ?_
          refine rdV (As := [.int p1]) (rest := []) (na := 1) (c_T_isUserOf l D cI cT cH ad st ((st 0 6).toNatClampNeg) p1 hj6 (by first | with_reducible assumption | exact vi_isIn7 (by with_reducible assumption) | exact vi_isThing (by with_reducible assumption) | exact vi_decl (by with_reducible assumption) | exact vi_ready (by with_reducible assumption) | exact vi_run (by with_reducible assumption) (by with_reducible assumption) | exact vi_run (by with_reducible assumption) (vi_runner _) | exact vi_mTask (by with_reducible assumption) | exact vi_mThing (by with_reducible assumption) | exact vi_mdecl (by with_reducible assumption) | exact vi_mready (by with_reducible assumption))) ⟨hx, hb, hml, hown, hts⟩ k_352 k_353 k_354 k_26 k_355 (by decide +kernel) (by decide) (by decide) hP hK hN (q0 := (5 + 2 * (st 0 6).toNatClampNeg)) (ci := 1) (cw_k hj6) rfl rfl hl.1 rfl (Nat.le_of_ble_eq_true rfl) d_C_take_50 ?_
          refine lv_if_ne (tgt := 66) hx hb d_C_take_53 (by decide) (fun hc7 => ?_) (fun hc7 => ?_)
          · have he := he.trans (if_neg hc7)
            refine lv_aload_n hx hb d_C_take_66 rfl (lv_at hl 0 rfl) ?_
            refine va_get (D := D) (ci := 0) (v := .ref (ad 1)) (C := R_C) (T := F_C) (N := 7) hx hb hts in_C hown hK hP 0 cw_0 rfl 0 (by decide) (hts _ k_129) (fun _ h9 => h9) rfl d_C_take_67 ?_
            refine lv_aload_n hx hb d_C_take_70 rfl (lv_at hl 0 rfl) ?_
            refine va_get (D := D) (ci := 0) (v := .int (st 0 6)) (C := R_C) (T := F_C) (N := 7) hx hb hts in_C hown hK hP 0 cw_0 rfl 6 (by decide) (hts _ k_135) (fun _ h9 => h9) rfl d_C_take_71 ?_
            have hi8 : vp_in (st 0 6) 8 := (by first | with_reducible assumption | exact vi_isIn7 (by with_reducible assumption) | exact vi_isThing (by with_reducible assumption) | exact vi_decl (by with_reducible assumption) | exact vi_ready (by with_reducible assumption) | exact vi_run (by with_reducible assumption) (by with_reducible assumption) | exact vi_run (by with_reducible assumption) (vi_runner _) | exact vi_mTask (by with_reducible assumption) | exact vi_mThing (by with_reducible assumption) | exact vi_mdecl (by with_reducible assumption) | exact vi_mready (by with_reducible assumption))
            refine va_aldq hx hb hK hP 1 1 cw_1 rfl hi8 d_C_take_74 ?_
            have hj9 : (st 0 6).toNatClampNeg < 8 := vi_lt hi8
            refine W.eq (g2 := F0 m 75 ls [.ref (ad (5 + 2 * (st 0 6).toNatClampNeg))]) rfl ?_
            refine lv_astore_n hx hb d_C_take_75 rfl hl (by decide) rfl (fun ls hl => ?_)
            have hl : lv_has ls 4 [(2, .ref (ad (5 + 2 * (st 0 6).toNatClampNeg))), (0, .ref (ad 0)), (1, .int p1)] := hl
            refine lv_aload_n hx hb d_C_take_76 rfl (lv_at hl 1 rfl) ?_
            refine va_get (D := D) (ci := 0) (v := .ref (ad 2)) (C := R_C) (T := F_C) (N := 7) hx hb hts in_C hown hK hP 0 cw_0 rfl 1 (by decide) (hts _ k_130) (fun _ h9 => h9) rfl d_C_take_77 ?_
            refine lv_iload_n hx hb d_C_take_80 rfl (lv_at hl 2 rfl) ?_
            have hi10 : vp_in p1 6 := (by first | with_reducible assumption | exact vi_isIn7 (by with_reducible assumption) | exact vi_isThing (by with_reducible assumption) | exact vi_decl (by with_reducible assumption) | exact vi_ready (by with_reducible assumption) | exact vi_run (by with_reducible assumption) (by with_reducible assumption) | exact vi_run (by with_reducible assumption) (vi_runner _) | exact vi_mTask (by with_reducible assumption) | exact vi_mThing (by with_reducible assumption) | exact vi_mdecl (by with_reducible assumption) | exact vi_mready (by with_reducible assumption))
            refine va_aldq hx hb hK hP 2 2 cw_2 rfl hi10 d_C_take_81 ?_
            have hj11 : p1.toNatClampNeg < 6 := vi_lt hi10
            refine W.eq (g2 := F0 m 82 ls [.ref (ad (21 + p1.toNatClampNeg))]) rfl ?_
            refine lv_astore_n hx hb d_C_take_82 rfl hl (by decide) rfl (fun ls hl => ?_)
            have hl : lv_has ls 4 [(3, .ref (ad (21 + p1.toNatClampNeg))), (2, .ref (ad (5 + 2 * (st 0 6).toNatClampNeg))), (0, .ref (ad 0)), (1, .int p1)] := hl
            refine lv_aload_n hx hb d_C_take_83 rfl (lv_at hl 0 rfl) ?_
            refine lv_aload_n hx hb d_C_take_84 rfl (lv_at hl 2 rfl) ?_
            refine va_get (D := D) (ci := 0) (v := .int (st 0 6)) (C := R_C) (T := F_C) (N := 7) hx hb hts in_C hown hK hP 0 cw_0 rfl 6 (by decide) (hts _ k_135) (fun _ h9 => h9) rfl d_C_take_85 ?_
            refine va_putN (D := D) (ci := 2) (v := .int (st 0 6)) (ty := .int) (C := R_H) (T := F_H) (N := 4) hx hb hts in_H ft_H ft_H_ok n_H hown hK hP (cw_D hI) hS (21 + p1.toNatClampNeg) (cw_h hj11) rfl 1 (by decide) (va_Nw.use rfl (hN _ nk_C_119)) (fun _ h9 => h9) rfl (by decide +kernel) rfl rfl (Nat.le_of_ble_eq_true rfl) d_C_take_88 (fun H locs hP _ hS => ?_)
            rw [cp_h (k := 1) hj11 (by decide)] at hP
            generalize hw13 : wr st (21 + p1.toNatClampNeg) 1 (st 0 6) = sw12 at hP he
            have ehy0_6 : sw12 0 6 = st 0 6 := by rw [← hw13]; exact wr_ne (by omega)
            have hy0 : sw12 0 6 = (-1) ∨ vp_in (sw12 0 6) 8 := by rw [ehy0_6]; exact hy0
            refine W.eq (g2 := F0 m 91 ls []) rfl ?_
            rw [f_C_take_S91] at he
            refine lv_aload_n hx hb d_C_take_91 rfl (lv_at hl 0 rfl) ?_
            refine lv_aload_n hx hb d_C_take_92 rfl (lv_at hl 1 rfl) ?_
            refine va_getN (D := D) (ci := 1) (v := .int (sw12 (5 + 2 * (st 0 6).toNatClampNeg) 7)) (C := R_T) (T := F_T) (N := 10) hx hb hts in_T hown hK hP (5 + 2 * (st 0 6).toNatClampNeg) (cw_k hj9) rfl 7 (by decide) (va_Nw.use rfl (hN _ nk_C_122)) (fun _ h9 => h9) rfl d_C_take_93 ?_
            refine va_putN (D := D) (ci := 2) (v := .int (sw12 (5 + 2 * (st 0 6).toNatClampNeg) 7)) (ty := .int) (C := R_H) (T := F_H) (N := 4) hx hb hts in_H ft_H ft_H_ok n_H hown hK hP (cw_D hI) hS (21 + p1.toNatClampNeg) (cw_h hj11) rfl 2 (by decide) (va_Nw.use rfl (hN _ nk_C_125)) (fun _ h9 => h9) rfl (by decide +kernel) rfl rfl (Nat.le_of_ble_eq_true rfl) d_C_take_96 (fun H locs hP _ hS => ?_)
            rw [cp_h (k := 2) hj11 (by decide)] at hP
            generalize hw15 : wr sw12 (21 + p1.toNatClampNeg) 2 (sw12 (5 + 2 * (st 0 6).toNatClampNeg) 7) = sw14 at hP he
            have ehy0_6 : sw14 0 6 = sw12 0 6 := by rw [← hw15]; exact wr_ne (by omega)
            have hy0 : sw14 0 6 = (-1) ∨ vp_in (sw14 0 6) 8 := by rw [ehy0_6]; exact hy0
            refine W.eq (g2 := F0 m 99 ls []) rfl ?_
            rw [f_C_take_S99] at he
            refine lv_aload_n hx hb d_C_take_99 rfl (lv_at hl 0 rfl) ?_
            refine lv_aload_n hx hb d_C_take_100 rfl (lv_at hl 1 rfl) ?_
            refine va_getN (D := D) (ci := 1) (v := .int (sw14 (5 + 2 * (st 0 6).toNatClampNeg) 5)) (C := R_T) (T := F_T) (N := 10) hx hb hts in_T hown hK hP (5 + 2 * (st 0 6).toNatClampNeg) (cw_k hj9) rfl 5 (by decide) (va_Nw.use rfl (hN _ nk_C_128)) (fun _ h9 => h9) rfl d_C_take_101 ?_
            refine va_putN (D := D) (ci := 2) (v := .int (sw14 (5 + 2 * (st 0 6).toNatClampNeg) 5)) (ty := .int) (C := R_H) (T := F_H) (N := 4) hx hb hts in_H ft_H ft_H_ok n_H hown hK hP (cw_D hI) hS (21 + p1.toNatClampNeg) (cw_h hj11) rfl 3 (by decide) (va_Nw.use rfl (hN _ nk_C_131)) (fun _ h9 => h9) rfl (by decide +kernel) rfl rfl (Nat.le_of_ble_eq_true rfl) d_C_take_104 (fun H locs hP _ hS => ?_)
            rw [cp_h (k := 3) hj11 (by decide)] at hP
            generalize hw17 : wr sw14 (21 + p1.toNatClampNeg) 3 (sw14 (5 + 2 * (st 0 6).toNatClampNeg) 5) = sw16 at hP he
            have ehy0_6 : sw16 0 6 = sw14 0 6 := by rw [← hw17]; exact wr_ne (by omega)
            have hy0 : sw16 0 6 = (-1) ∨ vp_in (sw16 0 6) 8 := by rw [ehy0_6]; exact hy0
            refine W.eq (g2 := F0 m 107 ls []) rfl ?_
            rw [f_C_take_S107] at he
            refine lv_aload_n hx hb d_C_take_107 rfl (lv_at hl 1 rfl) ?_
            refine lv_iload_n hx hb d_C_take_108 rfl (lv_at hl 3 rfl) ?_
            refine va_putN (D := D) (ci := 1) (v := .int p1) (ty := .int) (C := R_T) (T := F_T) (N := 10) hx hb hts in_T ft_T ft_T_ok n_T hown hK hP (cw_D hI) hS (5 + 2 * (st 0 6).toNatClampNeg) (cw_k hj9) rfl 7 (by decide) (va_Nw.use rfl (hN _ nk_C_122)) (fun _ h9 => h9) rfl (by decide +kernel) rfl rfl (Nat.le_of_ble_eq_true rfl) d_C_take_109 (fun H locs hP _ hS => ?_)
            rw [cp_k (k := 7) hj9 (by decide) (by decide)] at hP
            generalize hw19 : wr sw16 (5 + 2 * (st 0 6).toNatClampNeg) 7 p1 = sw18 at hP he
            have ehy0_6 : sw18 0 6 = sw16 0 6 := by rw [← hw19]; exact wr_ne (by omega)
            have hy0 : sw18 0 6 = (-1) ∨ vp_in (sw18 0 6) 8 := by rw [ehy0_6]; exact hy0
            refine W.eq (g2 := F0 m 112 ls []) rfl ?_
            rw [f_C_take_S112] at he
            refine lv_aload_n hx hb d_C_take_112 rfl (lv_at hl 1 rfl) ?_
            refine lv_aload_n hx hb d_C_take_113 rfl (lv_at hl 1 rfl) ?_
            refine va_getN (D := D) (ci := 1) (v := .int (sw18 (5 + 2 * (st 0 6).toNatClampNeg) 5)) (C := R_T) (T := F_T) (N := 10) hx hb hts in_T hown hK hP (5 + 2 * (st 0 6).toNatClampNeg) (cw_k hj9) rfl 5 (by decide) (va_Nw.use rfl (hN _ nk_C_128)) (fun _ h9 => h9) rfl d_C_take_114 ?_
            refine lv_aload_n hx hb d_C_take_117 rfl (lv_at hl 0 rfl) ?_
            refine va_getN (D := D) (ci := 2) (v := .int (sw18 (21 + p1.toNatClampNeg) 0)) (C := R_H) (T := F_H) (N := 4) hx hb hts in_H hown hK hP (21 + p1.toNatClampNeg) (cw_h hj11) rfl 0 (by decide) (va_Nw.use rfl (hN _ nk_C_87)) (fun _ h9 => h9) rfl d_C_take_118 ?_
            refine va_mmax hx hb (hml.trans hl.1.symm) hown (hts _ k_209) (hts _ k_210) (hts _ k_34) (hts _ k_211) (Nat.le_of_ble_eq_true rfl) (Nat.le_of_ble_eq_true rfl) (Nat.le_of_ble_eq_true rfl) (Nat.le_of_ble_eq_true rfl) d_C_take_121 ?_
            refine W.eq (g2 := F0 m 124 ls [.int (imax (sw18 (5 + 2 * (st 0 6).toNatClampNeg) 5) (sw18 (21 + p1.toNatClampNeg) 0)), .ref (ad (5 + 2 * (st 0 6).toNatClampNeg))]) rfl ?_
            refine va_putN (D := D) (ci := 1) (v := .int (imax (sw18 (5 + 2 * (st 0 6).toNatClampNeg) 5) (sw18 (21 + p1.toNatClampNeg) 0))) (ty := .int) (C := R_T) (T := F_T) (N := 10) hx hb hts in_T ft_T ft_T_ok n_T hown hK hP (cw_D hI) hS (5 + 2 * (st 0 6).toNatClampNeg) (cw_k hj9) rfl 5 (by decide) (va_Nw.use rfl (hN _ nk_C_128)) (fun _ h9 => h9) rfl (by decide +kernel) rfl rfl (Nat.le_of_ble_eq_true rfl) d_C_take_124 (fun H locs hP _ hS => ?_)
            rw [cp_k (k := 5) hj9 (by decide) (by decide)] at hP
            generalize hw21 : wr sw18 (5 + 2 * (st 0 6).toNatClampNeg) 5 (imax (sw18 (5 + 2 * (st 0 6).toNatClampNeg) 5) (sw18 (21 + p1.toNatClampNeg) 0)) = sw20 at hP he
            have ehy0_6 : sw20 0 6 = sw18 0 6 := by rw [← hw21]; exact wr_ne (by omega)
            have hy0 : sw20 0 6 = (-1) ∨ vp_in (sw20 0 6) 8 := by rw [ehy0_6]; exact hy0
            refine W.eq (g2 := F0 m 127 ls []) rfl ?_
            rw [f_C_take_S127] at he
            refine lv_aload_n hx hb d_C_take_127 rfl (lv_at hl 2 rfl) ?_
            refine lv_iconst (v := 2) hx hb d_C_take_128 (by decide) ?_
            refine lv_aload_n hx hb d_C_take_129 rfl (lv_at hl 2 rfl) ?_
            refine va_get (D := D) (ci := 0) (v := .int (sw20 0 6)) (C := R_C) (T := F_C) (N := 7) hx hb hts in_C hown hK hP 0 cw_0 rfl 6 (by decide) (hts _ k_135) (fun _ h9 => h9) rfl d_C_take_130 ?_
            refine lv_iload_n hx hb d_C_take_133 rfl (lv_at hl 3 rfl) ?_
            refine wcV (As := [.int 2, .int (sw20 0 6), .int p1]) (rest := []) (na := 3) (c_C_happened l D cI cT cH ad sw20 2 (sw20 0 6) p1 hI) ⟨hx, hb, hml, hown, hts⟩ k_373 k_375 k_8 k_24 k_376 (by decide +kernel) (by decide) (by decide) hP hK hN (q0 := 0) (ci := 0) cw_0 rfl hS rfl hl.1 rfl (Nat.le_of_ble_eq_true rfl) d_C_take_134 (fun H locs hP hS => ?_)
            generalize hw23 : f_C_happened sw20 2 (sw20 0 6) p1 = sw22 at hP he
            refine W.eq (g2 := F0 m 137 ls []) rfl ?_
            rw [f_C_take_S137] at he
            refine lv_aload_n hx hb d_C_take_137 rfl (lv_at hl 1 rfl) ?_
            refine va_getN (D := D) (ci := 1) (v := .int (sw22 (5 + 2 * (st 0 6).toNatClampNeg) 5)) (C := R_T) (T := F_T) (N := 10) hx hb hts in_T hown hK hP (5 + 2 * (st 0 6).toNatClampNeg) (cw_k hj9) rfl 5 (by decide) (va_Nw.use rfl (hN _ nk_C_128)) (fun _ h9 => h9) rfl d_C_take_138 ?_
            exact vx_ret (W.widen (k := 1) (n := 6) (by decide) (by decide) (W.iret (v := (sw22 (5 + 2 * (st 0 6).toNatClampNeg) 5)) hx hb hr (fun t ht _ => ⟨⟨(sw22 (5 + 2 * (st 0 6).toNatClampNeg) 5), (), rfl, ⟨by rw [he], by rw [he]⟩, (by rw [he]; show va_P _ _ _ t.heap; rw [ht]; exact hP)⟩, hS.F ht⟩) hS.2.2 d_C_take_141))
          · have he := he.trans (if_pos hc7)
            obtain ⟨sa, hsa⟩ := hXR (117, "no such thing, or the task that runs may not use it") (List.mem_of_getElem? (i := 7) rfl)
            exact vx_throwS (own := R_C) (cls := eA) (text := "no such thing, or the task that runs may not use it") (names := xn9) (ik := 59) (is := 117) (ic := 63) (sa := sa) hx hb hl0 hown (by decide) (by decide) (hts _ k_316) (hts _ k_33) hsa (fun w hw => (xat_63 w hw).elim (fun z => hts w z) (fun z => va_Nw.use (xT9_on w z) (hXT w z))) (xgd_63_59) hXU hXN hS (hl.1.trans hml.symm) d_C_take_56 d_C_take_59 d_C_take_60 d_C_take_62 d_C_take_65 (fun x h => (hnt x h).elim) (by decide) (by decide) (by decide) (by decide) hlocks (fun t _ hz hq => ⟨(), trivial, ⟨Or.inr ⟨by rw [he], rfl⟩, hP.kept (fun k q hk => hq _ (vx_lt hP hk))⟩, hz, fun q h1 _ => hq q h1⟩) hS.2.2 (by decide) (by decide)
      · have he := he.trans (if_neg hc3)
        obtain ⟨sa, hsa⟩ := hXR (112, "not sealed, no task runs, or the thing is held") (List.mem_of_getElem? (i := 6) rfl)
        exact vx_throwS (own := R_C) (cls := eS) (text := "not sealed, no task runs, or the thing is held") (names := xn9) (ik := 48) (is := 112) (ic := 52) (sa := sa) hx hb hl0 hown (by decide) (by decide) (hts _ k_249) (hts _ k_32) hsa (fun w hw => (xat_52 w hw).elim (fun z => hts w z) (fun z => va_Nw.use (xT9_on w z) (hXT w z))) (xgd_52_48) hXU hXN hS (hl.1.trans hml.symm) d_C_take_23 d_C_take_26 d_C_take_27 d_C_take_29 d_C_take_32 (fun x h => (hnt x h).elim) (by decide) (by decide) (by decide) (by decide) hlocks (fun t _ hz hq => ⟨(), trivial, ⟨Or.inl ⟨by rw [he], rfl⟩, hP.kept (fun k q hk => hq _ (vx_lt hP hk))⟩, hz, fun q h1 _ => hq q h1⟩) hS.2.2 (by decide) (by decide)
set_option maxHeartbeats 4000000 in
set_option maxRecDepth 100000 in
theorem c_C_give (l : Launch) (D : va_G) (cI cT cH : ClassId) (ad : Nat → Nat) (st : St) (p1 : Int32) (hl0 : l.stackTraces = false) (hI : ∀ i j, i < 27 → j < 27 → ad i = ad j → i = j) (hy0 : st 0 6 = (-1) ∨ vp_in (st 0 6) 8) : vx_Met l y_C_give w_C_give { frames := 7, cells := 1, slots := 6, locals := 100 } (va_Pc [.ref (ad 0), .int p1] (xW D cI cT cH (cw cI cT cH ad st) (inA ad 27))) (qXI D (f_C_give st p1) (fun z => cw cI cT cH ad z) (inA ad 27)) (qX D (f_C_give st p1) (cw cI cT cH ad st) (inA ad 27)) 1 6 (inA ad 27) := by
  refine vx_ofW (cc := b_C_give) (maxL := 4) (ret := (some .int)) (by decide +kernel) rfl ?_
  intro p e s m args below meth c s₁ B hml hnt hv
  obtain ⟨rfl, ⟨hP, hK, hN⟩, hXU, hXN, hXR, hXT⟩ := hv
  have hx := B.exec
  have hb := B.bytes
  have hr := B.returns
  have hlocks := B.notSynchronized
  have hts0 := atoms_spec (ws := w_C_give) B.pre
  have hts : ∀ w ∈ TT, w.before [.ref (ad 0), .int p1].toArray s = true := fun w h => hts0 w (List.mem_cons_of_mem _ h)
  have hown : s.vm.findClass R_C = some m.cls := findClass_of_methodNamed B.named
  have hS : va_S (inA ad 27) s.heap s.heap [] := va_S.rf
  have hl := lv_entry ([.ref (ad 0), .int p1]) (n := 4) (Nat.le_of_ble_eq_true rfl)
  rw [lg_entry_eq]
  generalize (lg_sl ([.ref (ad 0), .int p1]) ++ List.replicate (4 - (lg_sl ([.ref (ad 0), .int p1])).length) Slot.unset).toArray = ls at hl ⊢
  have hl : lv_has ls 4 [(0, .ref (ad 0)), (1, .int p1)] := hl
  have he := f_C_give.eq_1 st p1
  refine lv_aload_n hx hb d_C_give_0 rfl (lv_at hl 0 rfl) ?_
  refine va_get (D := D) (ci := 0) (v := .int (st 0 6)) (C := R_C) (T := F_C) (N := 7) hx hb hts in_C hown hK hP 0 cw_0 rfl 6 (by decide) (hts _ k_135) (fun _ h9 => h9) rfl d_C_give_1 ?_
  refine lv_iconst (v := (-1)) hx hb d_C_give_4 (by decide) ?_
  refine lv_icmp_ne (tgt := 18) hx hb d_C_give_5 (by decide) (fun hc1 => ?_) (fun hc1 => ?_)
  · have he := he.trans (if_neg hc1)
    refine lv_iload_n hx hb d_C_give_18 rfl (lv_at hl 1 rfl) ?_
    refine rdS (As := [.int p1]) (rest := []) (na := 1) (c_C_isThing l p1 ) ⟨hx, hb, hml, hown, hts⟩ k_186 k_187 k_24 k_188 (by decide +kernel) (by decide) (by decide) rfl hl.1 rfl (Nat.le_of_ble_eq_true rfl) d_C_give_19 ?_
    refine lv_if_eq (tgt := 41) hx hb d_C_give_22 (by decide) (fun hc2 => ?_) (fun hc2 => ?_)
    · have he := he.trans (if_pos hc2)
      obtain ⟨sa, hsa⟩ := hXR (142, "not the thing that the task that runs took last") (List.mem_of_getElem? (i := 9) rfl)
      exact vx_throwS (own := R_C) (cls := eA) (text := "not the thing that the task that runs took last") (names := xn9) (ik := 59) (is := 142) (ic := 63) (sa := sa) hx hb hl0 hown (by decide) (by decide) (hts _ k_316) (hts _ k_33) hsa (fun w hw => (xat_63 w hw).elim (fun z => hts w z) (fun z => va_Nw.use (xT9_on w z) (hXT w z))) (xgd_63_59) hXU hXN hS (hl.1.trans hml.symm) d_C_give_41 d_C_give_44 d_C_give_45 d_C_give_47 d_C_give_50 (fun x h => (hnt x h).elim) (by decide) (by decide) (by decide) (by decide) hlocks (fun t _ hz hq => ⟨(), trivial, ⟨Or.inr ⟨by rw [he], rfl⟩, hP.kept (fun k q hk => hq _ (vx_lt hP hk))⟩, hz, fun q h1 _ => hq q h1⟩) hS.2.2 (by decide) (by decide)
    · have he := he.trans (if_neg hc2)
      refine lv_aload_n hx hb d_C_give_25 rfl (lv_at hl 0 rfl) ?_
      refine va_get (D := D) (ci := 0) (v := .ref (ad 1)) (C := R_C) (T := F_C) (N := 7) hx hb hts in_C hown hK hP 0 cw_0 rfl 0 (by decide) (hts _ k_129) (fun _ h9 => h9) rfl d_C_give_26 ?_
      refine lv_aload_n hx hb d_C_give_29 rfl (lv_at hl 0 rfl) ?_
      refine va_get (D := D) (ci := 0) (v := .int (st 0 6)) (C := R_C) (T := F_C) (N := 7) hx hb hts in_C hown hK hP 0 cw_0 rfl 6 (by decide) (hts _ k_135) (fun _ h9 => h9) rfl d_C_give_30 ?_
      have hi3 : vp_in (st 0 6) 8 := (by first | with_reducible assumption | exact vi_isIn7 (by with_reducible assumption) | exact vi_isThing (by with_reducible assumption) | exact vi_decl (by with_reducible assumption) | exact vi_ready (by with_reducible assumption) | exact vi_run (by with_reducible assumption) (by with_reducible assumption) | exact vi_run (by with_reducible assumption) (vi_runner _) | exact vi_mTask (by with_reducible assumption) | exact vi_mThing (by with_reducible assumption) | exact vi_mdecl (by with_reducible assumption) | exact vi_mready (by with_reducible assumption))
      refine va_aldq hx hb hK hP 1 1 cw_1 rfl hi3 d_C_give_33 ?_
      have hj4 : (st 0 6).toNatClampNeg < 8 := vi_lt hi3
      refine W.eq (g2 := F0 m 34 ls [.ref (ad (5 + 2 * (st 0 6).toNatClampNeg))]) rfl ?_
      refine va_getN (D := D) (ci := 1) (v := .int (st (5 + 2 * (st 0 6).toNatClampNeg) 7)) (C := R_T) (T := F_T) (N := 10) hx hb hts in_T hown hK hP (5 + 2 * (st 0 6).toNatClampNeg) (cw_k hj4) rfl 7 (by decide) (va_Nw.use rfl (hN _ nk_C_122)) (fun _ h9 => h9) rfl d_C_give_34 ?_
      refine lv_iload_n hx hb d_C_give_37 rfl (lv_at hl 1 rfl) ?_
      refine lv_icmp_eq (tgt := 51) hx hb d_C_give_38 (by decide) (fun hc5 => ?_) (fun hc5 => ?_)
      · have he := he.trans (if_pos hc5)
        refine lv_aload_n hx hb d_C_give_51 rfl (lv_at hl 0 rfl) ?_
        refine va_get (D := D) (ci := 0) (v := .ref (ad 1)) (C := R_C) (T := F_C) (N := 7) hx hb hts in_C hown hK hP 0 cw_0 rfl 0 (by decide) (hts _ k_129) (fun _ h9 => h9) rfl d_C_give_52 ?_
        refine lv_aload_n hx hb d_C_give_55 rfl (lv_at hl 0 rfl) ?_
        refine va_get (D := D) (ci := 0) (v := .int (st 0 6)) (C := R_C) (T := F_C) (N := 7) hx hb hts in_C hown hK hP 0 cw_0 rfl 6 (by decide) (hts _ k_135) (fun _ h9 => h9) rfl d_C_give_56 ?_
        have hi6 : vp_in (st 0 6) 8 := (by first | with_reducible assumption | exact vi_isIn7 (by with_reducible assumption) | exact vi_isThing (by with_reducible assumption) | exact vi_decl (by with_reducible assumption) | exact vi_ready (by with_reducible assumption) | exact vi_run (by with_reducible assumption) (by with_reducible assumption) | exact vi_run (by with_reducible assumption) (vi_runner _) | exact vi_mTask (by with_reducible assumption) | exact vi_mThing (by with_reducible assumption) | exact vi_mdecl (by with_reducible assumption) | exact vi_mready (by with_reducible assumption))
        refine va_aldq hx hb hK hP 1 1 cw_1 rfl hi6 d_C_give_59 ?_
        have hj7 : (st 0 6).toNatClampNeg < 8 := vi_lt hi6
        refine W.eq (g2 := F0 m 60 ls [.ref (ad (5 + 2 * (st 0 6).toNatClampNeg))]) rfl ?_
        refine lv_astore_n hx hb d_C_give_60 rfl hl (by decide) rfl (fun ls hl => ?_)
        have hl : lv_has ls 4 [(2, .ref (ad (5 + 2 * (st 0 6).toNatClampNeg))), (0, .ref (ad 0)), (1, .int p1)] := hl
        refine lv_aload_n hx hb d_C_give_61 rfl (lv_at hl 1 rfl) ?_
        refine va_get (D := D) (ci := 0) (v := .ref (ad 2)) (C := R_C) (T := F_C) (N := 7) hx hb hts in_C hown hK hP 0 cw_0 rfl 1 (by decide) (hts _ k_130) (fun _ h9 => h9) rfl d_C_give_62 ?_
        refine lv_iload_n hx hb d_C_give_65 rfl (lv_at hl 2 rfl) ?_
        have hi8 : vp_in p1 6 := (by first | with_reducible assumption | exact vi_isIn7 (by with_reducible assumption) | exact vi_isThing (by with_reducible assumption) | exact vi_decl (by with_reducible assumption) | exact vi_ready (by with_reducible assumption) | exact vi_run (by with_reducible assumption) (by with_reducible assumption) | exact vi_run (by with_reducible assumption) (vi_runner _) | exact vi_mTask (by with_reducible assumption) | exact vi_mThing (by with_reducible assumption) | exact vi_mdecl (by with_reducible assumption) | exact vi_mready (by with_reducible assumption))
        refine va_aldq hx hb hK hP 2 2 cw_2 rfl hi8 d_C_give_66 ?_
        have hj9 : p1.toNatClampNeg < 6 := vi_lt hi8
        refine W.eq (g2 := F0 m 67 ls [.ref (ad (21 + p1.toNatClampNeg))]) rfl ?_
        refine lv_astore_n hx hb d_C_give_67 rfl hl (by decide) rfl (fun ls hl => ?_)
        have hl : lv_has ls 4 [(3, .ref (ad (21 + p1.toNatClampNeg))), (2, .ref (ad (5 + 2 * (st 0 6).toNatClampNeg))), (0, .ref (ad 0)), (1, .int p1)] := hl
        refine lv_aload_n hx hb d_C_give_68 rfl (lv_at hl 1 rfl) ?_
        refine lv_aload_n hx hb d_C_give_69 rfl (lv_at hl 0 rfl) ?_
        refine va_getN (D := D) (ci := 2) (v := .int (st (21 + p1.toNatClampNeg) 2)) (C := R_H) (T := F_H) (N := 4) hx hb hts in_H hown hK hP (21 + p1.toNatClampNeg) (cw_h hj9) rfl 2 (by decide) (va_Nw.use rfl (hN _ nk_C_125)) (fun _ h9 => h9) rfl d_C_give_70 ?_
        refine va_putN (D := D) (ci := 1) (v := .int (st (21 + p1.toNatClampNeg) 2)) (ty := .int) (C := R_T) (T := F_T) (N := 10) hx hb hts in_T ft_T ft_T_ok n_T hown hK hP (cw_D hI) hS (5 + 2 * (st 0 6).toNatClampNeg) (cw_k hj7) rfl 7 (by decide) (va_Nw.use rfl (hN _ nk_C_122)) (fun _ h9 => h9) rfl (by decide +kernel) rfl rfl (Nat.le_of_ble_eq_true rfl) d_C_give_73 (fun H locs hP _ hS => ?_)
        rw [cp_k (k := 7) hj7 (by decide) (by decide)] at hP
        generalize hw11 : wr st (5 + 2 * (st 0 6).toNatClampNeg) 7 (st (21 + p1.toNatClampNeg) 2) = sw10 at hP he
        have ehy0_6 : sw10 0 6 = st 0 6 := by rw [← hw11]; exact wr_ne (by omega)
        have hy0 : sw10 0 6 = (-1) ∨ vp_in (sw10 0 6) 8 := by rw [ehy0_6]; exact hy0
        refine W.eq (g2 := F0 m 76 ls []) rfl ?_
        rw [f_C_give_S76] at he
        refine lv_aload_n hx hb d_C_give_76 rfl (lv_at hl 1 rfl) ?_
        refine lv_aload_n hx hb d_C_give_77 rfl (lv_at hl 0 rfl) ?_
        refine va_getN (D := D) (ci := 2) (v := .int (sw10 (21 + p1.toNatClampNeg) 3)) (C := R_H) (T := F_H) (N := 4) hx hb hts in_H hown hK hP (21 + p1.toNatClampNeg) (cw_h hj9) rfl 3 (by decide) (va_Nw.use rfl (hN _ nk_C_131)) (fun _ h9 => h9) rfl d_C_give_78 ?_
        refine va_putN (D := D) (ci := 1) (v := .int (sw10 (21 + p1.toNatClampNeg) 3)) (ty := .int) (C := R_T) (T := F_T) (N := 10) hx hb hts in_T ft_T ft_T_ok n_T hown hK hP (cw_D hI) hS (5 + 2 * (st 0 6).toNatClampNeg) (cw_k hj7) rfl 5 (by decide) (va_Nw.use rfl (hN _ nk_C_128)) (fun _ h9 => h9) rfl (by decide +kernel) rfl rfl (Nat.le_of_ble_eq_true rfl) d_C_give_81 (fun H locs hP _ hS => ?_)
        rw [cp_k (k := 5) hj7 (by decide) (by decide)] at hP
        generalize hw13 : wr sw10 (5 + 2 * (st 0 6).toNatClampNeg) 5 (sw10 (21 + p1.toNatClampNeg) 3) = sw12 at hP he
        have ehy0_6 : sw12 0 6 = sw10 0 6 := by rw [← hw13]; exact wr_ne (by omega)
        have hy0 : sw12 0 6 = (-1) ∨ vp_in (sw12 0 6) 8 := by rw [ehy0_6]; exact hy0
        refine W.eq (g2 := F0 m 84 ls []) rfl ?_
        rw [f_C_give_S84] at he
        refine lv_aload_n hx hb d_C_give_84 rfl (lv_at hl 0 rfl) ?_
        refine lv_iconst (v := (-1)) hx hb d_C_give_85 (by decide) ?_
        refine va_putN (D := D) (ci := 2) (v := .int (-1)) (ty := .int) (C := R_H) (T := F_H) (N := 4) hx hb hts in_H ft_H ft_H_ok n_H hown hK hP (cw_D hI) hS (21 + p1.toNatClampNeg) (cw_h hj9) rfl 1 (by decide) (va_Nw.use rfl (hN _ nk_C_119)) (fun _ h9 => h9) rfl (by decide +kernel) rfl rfl (Nat.le_of_ble_eq_true rfl) d_C_give_86 (fun H locs hP _ hS => ?_)
        rw [cp_h (k := 1) hj9 (by decide)] at hP
        generalize hw15 : wr sw12 (21 + p1.toNatClampNeg) 1 (-1) = sw14 at hP he
        have ehy0_6 : sw14 0 6 = sw12 0 6 := by rw [← hw15]; exact wr_ne (by omega)
        have hy0 : sw14 0 6 = (-1) ∨ vp_in (sw14 0 6) 8 := by rw [ehy0_6]; exact hy0
        refine W.eq (g2 := F0 m 89 ls []) rfl ?_
        rw [f_C_give_S89] at he
        refine lv_aload_n hx hb d_C_give_89 rfl (lv_at hl 2 rfl) ?_
        refine lv_iconst (v := 3) hx hb d_C_give_90 (by decide) ?_
        refine lv_aload_n hx hb d_C_give_91 rfl (lv_at hl 2 rfl) ?_
        refine va_get (D := D) (ci := 0) (v := .int (sw14 0 6)) (C := R_C) (T := F_C) (N := 7) hx hb hts in_C hown hK hP 0 cw_0 rfl 6 (by decide) (hts _ k_135) (fun _ h9 => h9) rfl d_C_give_92 ?_
        refine lv_iload_n hx hb d_C_give_95 rfl (lv_at hl 3 rfl) ?_
        refine wcV (As := [.int 3, .int (sw14 0 6), .int p1]) (rest := []) (na := 3) (c_C_happened l D cI cT cH ad sw14 3 (sw14 0 6) p1 hI) ⟨hx, hb, hml, hown, hts⟩ k_373 k_375 k_8 k_24 k_376 (by decide +kernel) (by decide) (by decide) hP hK hN (q0 := 0) (ci := 0) cw_0 rfl hS rfl hl.1 rfl (Nat.le_of_ble_eq_true rfl) d_C_give_96 (fun H locs hP hS => ?_)
        generalize hw17 : f_C_happened sw14 3 (sw14 0 6) p1 = sw16 at hP he
        refine W.eq (g2 := F0 m 99 ls []) rfl ?_
        rw [f_C_give_S99] at he
        refine lv_aload_n hx hb d_C_give_99 rfl (lv_at hl 1 rfl) ?_
        refine va_getN (D := D) (ci := 1) (v := .int (sw16 (5 + 2 * (st 0 6).toNatClampNeg) 5)) (C := R_T) (T := F_T) (N := 10) hx hb hts in_T hown hK hP (5 + 2 * (st 0 6).toNatClampNeg) (cw_k hj7) rfl 5 (by decide) (va_Nw.use rfl (hN _ nk_C_128)) (fun _ h9 => h9) rfl d_C_give_100 ?_
        exact vx_ret (W.widen (k := 1) (n := 6) (by decide) (by decide) (W.iret (v := (sw16 (5 + 2 * (st 0 6).toNatClampNeg) 5)) hx hb hr (fun t ht _ => ⟨⟨(sw16 (5 + 2 * (st 0 6).toNatClampNeg) 5), (), rfl, ⟨by rw [he], by rw [he]⟩, (by rw [he]; show va_P _ _ _ t.heap; rw [ht]; exact hP)⟩, hS.F ht⟩) hS.2.2 d_C_give_103))
      · have he := he.trans (if_neg hc5)
        obtain ⟨sa, hsa⟩ := hXR (142, "not the thing that the task that runs took last") (List.mem_of_getElem? (i := 9) rfl)
        exact vx_throwS (own := R_C) (cls := eA) (text := "not the thing that the task that runs took last") (names := xn9) (ik := 59) (is := 142) (ic := 63) (sa := sa) hx hb hl0 hown (by decide) (by decide) (hts _ k_316) (hts _ k_33) hsa (fun w hw => (xat_63 w hw).elim (fun z => hts w z) (fun z => va_Nw.use (xT9_on w z) (hXT w z))) (xgd_63_59) hXU hXN hS (hl.1.trans hml.symm) d_C_give_41 d_C_give_44 d_C_give_45 d_C_give_47 d_C_give_50 (fun x h => (hnt x h).elim) (by decide) (by decide) (by decide) (by decide) hlocks (fun t _ hz hq => ⟨(), trivial, ⟨Or.inr ⟨by rw [he], rfl⟩, hP.kept (fun k q hk => hq _ (vx_lt hP hk))⟩, hz, fun q h1 _ => hq q h1⟩) hS.2.2 (by decide) (by decide)
  · have he := he.trans (if_pos hc1)
    obtain ⟨sa, hsa⟩ := hXR (140, "no task runs") (List.mem_of_getElem? (i := 8) rfl)
    exact vx_throwS (own := R_C) (cls := eS) (text := "no task runs") (names := xn9) (ik := 48) (is := 140) (ic := 52) (sa := sa) hx hb hl0 hown (by decide) (by decide) (hts _ k_249) (hts _ k_32) hsa (fun w hw => (xat_52 w hw).elim (fun z => hts w z) (fun z => va_Nw.use (xT9_on w z) (hXT w z))) (xgd_52_48) hXU hXN hS (hl.1.trans hml.symm) d_C_give_8 d_C_give_11 d_C_give_12 d_C_give_14 d_C_give_17 (fun x h => (hnt x h).elim) (by decide) (by decide) (by decide) (by decide) hlocks (fun t _ hz hq => ⟨(), trivial, ⟨Or.inl ⟨by rw [he], rfl⟩, hP.kept (fun k q hk => hq _ (vx_lt hP hk))⟩, hz, fun q h1 _ => hq q h1⟩) hS.2.2 (by decide) (by decide)
set_option maxHeartbeats 4000000 in
set_option maxRecDepth 100000 in
theorem c_C_finish (l : Launch) (D : va_G) (cI cT cH : ClassId) (ad : Nat → Nat) (st : St) (hl0 : l.stackTraces = false) (hI : ∀ i j, i < 27 → j < 27 → ad i = ad j → i = j) (hy0 : st 0 6 = (-1) ∨ vp_in (st 0 6) 8) : vx_Met l y_C_finish w_C_finish { frames := 7, cells := 1, slots := 6, locals := 100 } (va_Pc [.ref (ad 0)] (xW D cI cT cH (cw cI cT cH ad st) (inA ad 27))) (qXI D (f_C_finish st) (fun z => cw cI cT cH ad z) (inA ad 27)) (qX D (f_C_finish st) (cw cI cT cH ad st) (inA ad 27)) 1 6 (inA ad 27) := by
  refine vx_ofW (cc := b_C_finish) (maxL := 2) (ret := (some .int)) (by decide +kernel) rfl ?_
  intro p e s m args below meth c s₁ B hml hnt hv
  obtain ⟨rfl, ⟨hP, hK, hN⟩, hXU, hXN, hXR, hXT⟩ := hv
  have hx := B.exec
  have hb := B.bytes
  have hr := B.returns
  have hlocks := B.notSynchronized
  have hts0 := atoms_spec (ws := w_C_finish) B.pre
  have hts : ∀ w ∈ TT, w.before [.ref (ad 0)].toArray s = true := fun w h => hts0 w (List.mem_cons_of_mem _ h)
  have hown : s.vm.findClass R_C = some m.cls := findClass_of_methodNamed B.named
  have hS : va_S (inA ad 27) s.heap s.heap [] := va_S.rf
  have hl := lv_entry ([.ref (ad 0)]) (n := 2) (Nat.le_of_ble_eq_true rfl)
  rw [lg_entry_eq]
  generalize (lg_sl ([.ref (ad 0)]) ++ List.replicate (2 - (lg_sl ([.ref (ad 0)])).length) Slot.unset).toArray = ls at hl ⊢
  have hl : lv_has ls 2 [(0, .ref (ad 0))] := hl
  have he := f_C_finish.eq_1 st
  refine lv_aload_n hx hb d_C_finish_0 rfl (lv_at hl 0 rfl) ?_
  refine va_get (D := D) (ci := 0) (v := .int (st 0 6)) (C := R_C) (T := F_C) (N := 7) hx hb hts in_C hown hK hP 0 cw_0 rfl 6 (by decide) (hts _ k_135) (fun _ h9 => h9) rfl d_C_finish_1 ?_
  refine lv_iconst (v := (-1)) hx hb d_C_finish_4 (by decide) ?_
  refine lv_icmp_eq (tgt := 24) hx hb d_C_finish_5 (by decide) (fun hc1 => ?_) (fun hc1 => ?_)
  · have he := he.trans (if_pos hc1)
    obtain ⟨sa, hsa⟩ := hXR (144, "no task runs, or it holds something") (List.mem_of_getElem? (i := 10) rfl)
    exact vx_throwS (own := R_C) (cls := eS) (text := "no task runs, or it holds something") (names := xn9) (ik := 48) (is := 144) (ic := 52) (sa := sa) hx hb hl0 hown (by decide) (by decide) (hts _ k_249) (hts _ k_32) hsa (fun w hw => (xat_52 w hw).elim (fun z => hts w z) (fun z => va_Nw.use (xT9_on w z) (hXT w z))) (xgd_52_48) hXU hXN hS (hl.1.trans hml.symm) d_C_finish_24 d_C_finish_27 d_C_finish_28 d_C_finish_30 d_C_finish_33 (fun x h => (hnt x h).elim) (by decide) (by decide) (by decide) (by decide) hlocks (fun t _ hz hq => ⟨(), trivial, ⟨Or.inl ⟨by rw [he], rfl⟩, hP.kept (fun k q hk => hq _ (vx_lt hP hk))⟩, hz, fun q h1 _ => hq q h1⟩) hS.2.2 (by decide) (by decide)
  · have he := he.trans (if_neg hc1)
    refine lv_aload_n hx hb d_C_finish_8 rfl (lv_at hl 0 rfl) ?_
    refine va_get (D := D) (ci := 0) (v := .ref (ad 1)) (C := R_C) (T := F_C) (N := 7) hx hb hts in_C hown hK hP 0 cw_0 rfl 0 (by decide) (hts _ k_129) (fun _ h9 => h9) rfl d_C_finish_9 ?_
    refine lv_aload_n hx hb d_C_finish_12 rfl (lv_at hl 0 rfl) ?_
    refine va_get (D := D) (ci := 0) (v := .int (st 0 6)) (C := R_C) (T := F_C) (N := 7) hx hb hts in_C hown hK hP 0 cw_0 rfl 6 (by decide) (hts _ k_135) (fun _ h9 => h9) rfl d_C_finish_13 ?_
    have hi2 : vp_in (st 0 6) 8 := (by first | with_reducible assumption | exact vi_isIn7 (by with_reducible assumption) | exact vi_isThing (by with_reducible assumption) | exact vi_decl (by with_reducible assumption) | exact vi_ready (by with_reducible assumption) | exact vi_run (by with_reducible assumption) (by with_reducible assumption) | exact vi_run (by with_reducible assumption) (vi_runner _) | exact vi_mTask (by with_reducible assumption) | exact vi_mThing (by with_reducible assumption) | exact vi_mdecl (by with_reducible assumption) | exact vi_mready (by with_reducible assumption))
    refine va_aldq hx hb hK hP 1 1 cw_1 rfl hi2 d_C_finish_16 ?_
    have hj3 : (st 0 6).toNatClampNeg < 8 := vi_lt hi2
    refine W.eq (g2 := F0 m 17 ls [.ref (ad (5 + 2 * (st 0 6).toNatClampNeg))]) rfl ?_
    refine va_getN (D := D) (ci := 1) (v := .int (st (5 + 2 * (st 0 6).toNatClampNeg) 7)) (C := R_T) (T := F_T) (N := 10) hx hb hts in_T hown hK hP (5 + 2 * (st 0 6).toNatClampNeg) (cw_k hj3) rfl 7 (by decide) (va_Nw.use rfl (hN _ nk_C_122)) (fun _ h9 => h9) rfl d_C_finish_17 ?_
    refine lv_iconst (v := (-1)) hx hb d_C_finish_20 (by decide) ?_
    refine lv_icmp_eq (tgt := 34) hx hb d_C_finish_21 (by decide) (fun hc4 => ?_) (fun hc4 => ?_)
    · have he := he.trans (if_pos hc4)
      refine lv_aload_n hx hb d_C_finish_34 rfl (lv_at hl 0 rfl) ?_
      refine va_get (D := D) (ci := 0) (v := .ref (ad 1)) (C := R_C) (T := F_C) (N := 7) hx hb hts in_C hown hK hP 0 cw_0 rfl 0 (by decide) (hts _ k_129) (fun _ h9 => h9) rfl d_C_finish_35 ?_
      refine lv_aload_n hx hb d_C_finish_38 rfl (lv_at hl 0 rfl) ?_
      refine va_get (D := D) (ci := 0) (v := .int (st 0 6)) (C := R_C) (T := F_C) (N := 7) hx hb hts in_C hown hK hP 0 cw_0 rfl 6 (by decide) (hts _ k_135) (fun _ h9 => h9) rfl d_C_finish_39 ?_
      have hi5 : vp_in (st 0 6) 8 := (by first | with_reducible assumption | exact vi_isIn7 (by with_reducible assumption) | exact vi_isThing (by with_reducible assumption) | exact vi_decl (by with_reducible assumption) | exact vi_ready (by with_reducible assumption) | exact vi_run (by with_reducible assumption) (by with_reducible assumption) | exact vi_run (by with_reducible assumption) (vi_runner _) | exact vi_mTask (by with_reducible assumption) | exact vi_mThing (by with_reducible assumption) | exact vi_mdecl (by with_reducible assumption) | exact vi_mready (by with_reducible assumption))
      refine va_aldq hx hb hK hP 1 1 cw_1 rfl hi5 d_C_finish_42 ?_
      have hj6 : (st 0 6).toNatClampNeg < 8 := vi_lt hi5
      refine W.eq (g2 := F0 m 43 ls [.ref (ad (5 + 2 * (st 0 6).toNatClampNeg))]) rfl ?_
      refine lv_astore_n hx hb d_C_finish_43 rfl hl (by decide) rfl (fun ls hl => ?_)
      have hl : lv_has ls 2 [(1, .ref (ad (5 + 2 * (st 0 6).toNatClampNeg))), (0, .ref (ad 0))] := hl
      refine lv_aload_n hx hb d_C_finish_44 rfl (lv_at hl 0 rfl) ?_
      refine lv_iconst (v := 0) hx hb d_C_finish_45 (by decide) ?_
      refine va_putN (D := D) (ci := 1) (v := .int 0) (ty := .boolean) (C := R_T) (T := F_T) (N := 10) hx hb hts in_T ft_T ft_T_ok n_T hown hK hP (cw_D hI) hS (5 + 2 * (st 0 6).toNatClampNeg) (cw_k hj6) rfl 4 (by decide) (va_Nw.use rfl (hN _ nk_C_146)) (fun _ h9 => h9) rfl (by decide +kernel) rfl rfl (Nat.le_of_ble_eq_true rfl) d_C_finish_46 (fun H locs hP _ hS => ?_)
      rw [cp_k (k := 4) hj6 (by decide) (by decide)] at hP
      generalize hw8 : wr st (5 + 2 * (st 0 6).toNatClampNeg) 4 0 = sw7 at hP he
      have ehy0_6 : sw7 0 6 = st 0 6 := by rw [← hw8]; exact wr_ne (by omega)
      have hy0 : sw7 0 6 = (-1) ∨ vp_in (sw7 0 6) 8 := by rw [ehy0_6]; exact hy0
      refine W.eq (g2 := F0 m 49 ls []) rfl ?_
      rw [f_C_finish_S49] at he
      refine lv_aload_n hx hb d_C_finish_49 rfl (lv_at hl 1 rfl) ?_
      refine lv_iconst (v := 4) hx hb d_C_finish_50 (by decide) ?_
      refine lv_aload_n hx hb d_C_finish_51 rfl (lv_at hl 1 rfl) ?_
      refine va_get (D := D) (ci := 0) (v := .int (sw7 0 6)) (C := R_C) (T := F_C) (N := 7) hx hb hts in_C hown hK hP 0 cw_0 rfl 6 (by decide) (hts _ k_135) (fun _ h9 => h9) rfl d_C_finish_52 ?_
      refine lv_bipush (v := 15) hx hb d_C_finish_55 (by decide) ?_
      refine wcV (As := [.int 4, .int (sw7 0 6), .int 15]) (rest := []) (na := 3) (c_C_happened l D cI cT cH ad sw7 4 (sw7 0 6) 15 hI) ⟨hx, hb, hml, hown, hts⟩ k_373 k_375 k_8 k_24 k_376 (by decide +kernel) (by decide) (by decide) hP hK hN (q0 := 0) (ci := 0) cw_0 rfl hS rfl hl.1 rfl (Nat.le_of_ble_eq_true rfl) d_C_finish_57 (fun H locs hP hS => ?_)
      generalize hw10 : f_C_happened sw7 4 (sw7 0 6) 15 = sw9 at hP he
      refine W.eq (g2 := F0 m 60 ls []) rfl ?_
      rw [f_C_finish_S60] at he
      refine lv_aload_n hx hb d_C_finish_60 rfl (lv_at hl 0 rfl) ?_
      refine va_getN (D := D) (ci := 1) (v := .int (sw9 (5 + 2 * (st 0 6).toNatClampNeg) 8)) (C := R_T) (T := F_T) (N := 10) hx hb hts in_T hown hK hP (5 + 2 * (st 0 6).toNatClampNeg) (cw_k hj6) rfl 8 (by decide) (va_Nw.use rfl (hN _ nk_C_149)) (fun _ h9 => h9) rfl d_C_finish_61 ?_
      exact vx_ret (W.widen (k := 1) (n := 6) (by decide) (by decide) (W.iret (v := (sw9 (5 + 2 * (st 0 6).toNatClampNeg) 8)) hx hb hr (fun t ht _ => ⟨⟨(sw9 (5 + 2 * (st 0 6).toNatClampNeg) 8), (), rfl, ⟨by rw [he], by rw [he]⟩, (by rw [he]; show va_P _ _ _ t.heap; rw [ht]; exact hP)⟩, hS.F ht⟩) hS.2.2 d_C_finish_64))
    · have he := he.trans (if_neg hc4)
      obtain ⟨sa, hsa⟩ := hXR (144, "no task runs, or it holds something") (List.mem_of_getElem? (i := 10) rfl)
      exact vx_throwS (own := R_C) (cls := eS) (text := "no task runs, or it holds something") (names := xn9) (ik := 48) (is := 144) (ic := 52) (sa := sa) hx hb hl0 hown (by decide) (by decide) (hts _ k_249) (hts _ k_32) hsa (fun w hw => (xat_52 w hw).elim (fun z => hts w z) (fun z => va_Nw.use (xT9_on w z) (hXT w z))) (xgd_52_48) hXU hXN hS (hl.1.trans hml.symm) d_C_finish_24 d_C_finish_27 d_C_finish_28 d_C_finish_30 d_C_finish_33 (fun x h => (hnt x h).elim) (by decide) (by decide) (by decide) (by decide) hlocks (fun t _ hz hq => ⟨(), trivial, ⟨Or.inl ⟨by rw [he], rfl⟩, hP.kept (fun k q hk => hq _ (vx_lt hP hk))⟩, hz, fun q h1 _ => hq q h1⟩) hS.2.2 (by decide) (by decide)
set_option maxHeartbeats 4000000 in
set_option maxRecDepth 100000 in
theorem c_C_pass (l : Launch) (D : va_G) (cI cT cH : ClassId) (ad : Nat → Nat) (st : St) (p1 : Int32) (hl0 : l.stackTraces = false) (hI : ∀ i j, i < 27 → j < 27 → ad i = ad j → i = j) (hy0 : st 0 6 = (-1) ∨ vp_in (st 0 6) 8) : vx_Met l y_C_pass w_C_pass { frames := 7, cells := 1, slots := 6, locals := 100 } (va_Pc [.ref (ad 0), .int p1] (xW D cI cT cH (cw cI cT cH ad st) (inA ad 27))) (qXI D (f_C_pass st p1) (fun z => cw cI cT cH ad z) (inA ad 27)) (qX D (f_C_pass st p1) (cw cI cT cH ad st) (inA ad 27)) 1 6 (inA ad 27) := by
  refine vx_ofW (cc := b_C_pass) (maxL := 2) (ret := (some .int)) (by decide +kernel) rfl ?_
  intro p e s m args below meth c s₁ B hml hnt hv
  obtain ⟨rfl, ⟨hP, hK, hN⟩, hXU, hXN, hXR, hXT⟩ := hv
  have hx := B.exec
  have hb := B.bytes
  have hr := B.returns
  have hlocks := B.notSynchronized
  have hts0 := atoms_spec (ws := w_C_pass) B.pre
  have hts : ∀ w ∈ TT, w.before [.ref (ad 0), .int p1].toArray s = true := fun w h => hts0 w (List.mem_cons_of_mem _ h)
  have hown : s.vm.findClass R_C = some m.cls := findClass_of_methodNamed B.named
  have hS : va_S (inA ad 27) s.heap s.heap [] := va_S.rf
  have hl := lv_entry ([.ref (ad 0), .int p1]) (n := 2) (Nat.le_of_ble_eq_true rfl)
  rw [lg_entry_eq]
  generalize (lg_sl ([.ref (ad 0), .int p1]) ++ List.replicate (2 - (lg_sl ([.ref (ad 0), .int p1])).length) Slot.unset).toArray = ls at hl ⊢
  have hl : lv_has ls 2 [(0, .ref (ad 0)), (1, .int p1)] := hl
  have he := f_C_pass.eq_1 st p1
  refine lv_iload_n hx hb d_C_pass_0 rfl (lv_at hl 1 rfl) ?_
  refine lv_iconst (v := 0) hx hb d_C_pass_1 (by decide) ?_
  refine lv_bipush (v := 100) hx hb d_C_pass_2 (by decide) ?_
  refine rdS (As := [.int p1, .int 0, .int 100]) (rest := []) (na := 3) (c_C_isIn l p1 0 100 ) ⟨hx, hb, hml, hown, hts⟩ k_163 k_164 k_24 k_165 (by decide +kernel) (by decide) (by decide) rfl hl.1 rfl (Nat.le_of_ble_eq_true rfl) d_C_pass_4 ?_
  refine lv_if_ne (tgt := 20) hx hb d_C_pass_7 (by decide) (fun hc1 => ?_) (fun hc1 => ?_)
  · have he := he.trans (if_neg hc1)
    refine lv_aload_n hx hb d_C_pass_20 rfl (lv_at hl 0 rfl) ?_
    refine lv_dup hx hb d_C_pass_21 rfl ?_
    refine va_get (D := D) (ci := 0) (v := .int (st 0 4)) (C := R_C) (T := F_C) (N := 7) hx hb hts in_C hown hK hP 0 cw_0 rfl 4 (by decide) (hts _ k_133) (fun _ h9 => h9) rfl d_C_pass_22 ?_
    refine lv_iload_n hx hb d_C_pass_25 rfl (lv_at hl 1 rfl) ?_
    refine lv_iadd hx hb d_C_pass_26 ?_
    refine va_put (D := D) (ci := 0) (v := .int ((st 0 4) + p1)) (ty := .int) (C := R_C) (T := F_C) (N := 7) hx hb hts in_C ft_C ft_C_ok n_C hown hK hP (cw_D hI) hS 0 cw_0 rfl 4 (by decide) (hts _ k_133) (fun _ h9 => h9) rfl (by decide +kernel) rfl rfl (Nat.le_of_ble_eq_true rfl) d_C_pass_27 (fun H locs hP _ hS => ?_)
    rw [cp_0 (k := 4) (by decide)] at hP
    generalize hw3 : wr st 0 4 ((st 0 4) + p1) = sw2 at hP he
    have ehy0_6 : sw2 0 6 = st 0 6 := by rw [← hw3]; exact wr_ne (by omega)
    have hy0 : sw2 0 6 = (-1) ∨ vp_in (sw2 0 6) 8 := by rw [ehy0_6]; exact hy0
    refine W.eq (g2 := F0 m 30 ls []) rfl ?_
    rw [f_C_pass_S30] at he
    refine lv_aload_n hx hb d_C_pass_30 rfl (lv_at hl 0 rfl) ?_
    refine va_get (D := D) (ci := 0) (v := .int (sw2 0 6)) (C := R_C) (T := F_C) (N := 7) hx hb hts in_C hown hK hP 0 cw_0 rfl 6 (by decide) (hts _ k_135) (fun _ h9 => h9) rfl d_C_pass_31 ?_
    refine lv_iconst (v := (-1)) hx hb d_C_pass_34 (by decide) ?_
    refine lv_icmp_eq (tgt := 73) hx hb d_C_pass_35 (by decide) (fun hc4 => ?_) (fun hc4 => ?_)
    · have he := he.trans (if_pos hc4)
      refine lv_aload_n hx hb d_C_pass_73 rfl (lv_at hl 0 rfl) ?_
      refine va_get (D := D) (ci := 0) (v := .int (sw2 0 4)) (C := R_C) (T := F_C) (N := 7) hx hb hts in_C hown hK hP 0 cw_0 rfl 4 (by decide) (hts _ k_133) (fun _ h9 => h9) rfl d_C_pass_74 ?_
      exact vx_ret (W.widen (k := 1) (n := 6) (by decide) (by decide) (W.iret (v := (sw2 0 4)) hx hb hr (fun t ht _ => ⟨⟨(sw2 0 4), (), rfl, ⟨by rw [he], by rw [he]⟩, (by rw [he]; show va_P _ _ _ t.heap; rw [ht]; exact hP)⟩, hS.F ht⟩) hS.2.2 d_C_pass_77))
    · have he := he.trans (if_neg hc4)
      have hf0 : vp_in (sw2 0 6) 8 := vi_run (by assumption) hy0
      refine lv_aload_n hx hb d_C_pass_38 rfl (lv_at hl 0 rfl) ?_
      refine va_get (D := D) (ci := 0) (v := .ref (ad 1)) (C := R_C) (T := F_C) (N := 7) hx hb hts in_C hown hK hP 0 cw_0 rfl 0 (by decide) (hts _ k_129) (fun _ h9 => h9) rfl d_C_pass_39 ?_
      refine lv_aload_n hx hb d_C_pass_42 rfl (lv_at hl 0 rfl) ?_
      refine va_get (D := D) (ci := 0) (v := .int (sw2 0 6)) (C := R_C) (T := F_C) (N := 7) hx hb hts in_C hown hK hP 0 cw_0 rfl 6 (by decide) (hts _ k_135) (fun _ h9 => h9) rfl d_C_pass_43 ?_
      have hi5 : vp_in (sw2 0 6) 8 := (by first | with_reducible assumption | exact vi_isIn7 (by with_reducible assumption) | exact vi_isThing (by with_reducible assumption) | exact vi_decl (by with_reducible assumption) | exact vi_ready (by with_reducible assumption) | exact vi_run (by with_reducible assumption) (by with_reducible assumption) | exact vi_run (by with_reducible assumption) (vi_runner _) | exact vi_mTask (by with_reducible assumption) | exact vi_mThing (by with_reducible assumption) | exact vi_mdecl (by with_reducible assumption) | exact vi_mready (by with_reducible assumption))
      refine va_aldq hx hb hK hP 1 1 cw_1 rfl hi5 d_C_pass_46 ?_
      have hj6 : (sw2 0 6).toNatClampNeg < 8 := vi_lt hi5
      refine W.eq (g2 := F0 m 47 ls [.ref (ad (5 + 2 * (sw2 0 6).toNatClampNeg))]) rfl ?_
      refine lv_dup hx hb d_C_pass_47 rfl ?_
      refine va_getN (D := D) (ci := 1) (v := .int (sw2 (5 + 2 * (sw2 0 6).toNatClampNeg) 8)) (C := R_T) (T := F_T) (N := 10) hx hb hts in_T hown hK hP (5 + 2 * (sw2 0 6).toNatClampNeg) (cw_k hj6) rfl 8 (by decide) (va_Nw.use rfl (hN _ nk_C_149)) (fun _ h9 => h9) rfl d_C_pass_48 ?_
      refine lv_iload_n hx hb d_C_pass_51 rfl (lv_at hl 1 rfl) ?_
      refine lv_iadd hx hb d_C_pass_52 ?_
      refine va_putN (D := D) (ci := 1) (v := .int ((sw2 (5 + 2 * (sw2 0 6).toNatClampNeg) 8) + p1)) (ty := .int) (C := R_T) (T := F_T) (N := 10) hx hb hts in_T ft_T ft_T_ok n_T hown hK hP (cw_D hI) hS (5 + 2 * (sw2 0 6).toNatClampNeg) (cw_k hj6) rfl 8 (by decide) (va_Nw.use rfl (hN _ nk_C_149)) (fun _ h9 => h9) rfl (by decide +kernel) rfl rfl (Nat.le_of_ble_eq_true rfl) d_C_pass_53 (fun H locs hP _ hS => ?_)
      rw [cp_k (k := 8) hj6 (by decide) (by decide)] at hP
      generalize hw8 : wr sw2 (5 + 2 * (sw2 0 6).toNatClampNeg) 8 ((sw2 (5 + 2 * (sw2 0 6).toNatClampNeg) 8) + p1) = sw7 at hP he
      have ehy0_6 : sw7 0 6 = sw2 0 6 := by rw [← hw8]; exact wr_ne (by omega)
      have hy0 : sw7 0 6 = (-1) ∨ vp_in (sw7 0 6) 8 := by rw [ehy0_6]; exact hy0
      have ehf0_6 : sw7 0 6 = sw2 0 6 := by rw [← hw8]; exact wr_ne (by omega)
      have hf0 : vp_in (sw7 0 6) 8 := by rw [ehf0_6]; exact hf0
      refine W.eq (g2 := F0 m 56 ls []) rfl ?_
      rw [f_C_pass_S56] at he
      refine lv_aload_n hx hb d_C_pass_56 rfl (lv_at hl 0 rfl) ?_
      refine lv_aload_n hx hb d_C_pass_57 rfl (lv_at hl 0 rfl) ?_
      refine va_get (D := D) (ci := 0) (v := .ref (ad 1)) (C := R_C) (T := F_C) (N := 7) hx hb hts in_C hown hK hP 0 cw_0 rfl 0 (by decide) (hts _ k_129) (fun _ h9 => h9) rfl d_C_pass_58 ?_
      refine lv_aload_n hx hb d_C_pass_61 rfl (lv_at hl 0 rfl) ?_
      refine va_get (D := D) (ci := 0) (v := .int (sw7 0 6)) (C := R_C) (T := F_C) (N := 7) hx hb hts in_C hown hK hP 0 cw_0 rfl 6 (by decide) (hts _ k_135) (fun _ h9 => h9) rfl d_C_pass_62 ?_
      have hi9 : vp_in (sw7 0 6) 8 := (by first | with_reducible assumption | exact vi_isIn7 (by with_reducible assumption) | exact vi_isThing (by with_reducible assumption) | exact vi_decl (by with_reducible assumption) | exact vi_ready (by with_reducible assumption) | exact vi_run (by with_reducible assumption) (by with_reducible assumption) | exact vi_run (by with_reducible assumption) (vi_runner _) | exact vi_mTask (by with_reducible assumption) | exact vi_mThing (by with_reducible assumption) | exact vi_mdecl (by with_reducible assumption) | exact vi_mready (by with_reducible assumption))
      refine va_aldq hx hb hK hP 1 1 cw_1 rfl hi9 d_C_pass_65 ?_
      have hj10 : (sw7 0 6).toNatClampNeg < 8 := vi_lt hi9
      refine W.eq (g2 := F0 m 66 ls [.ref (ad (5 + 2 * (sw7 0 6).toNatClampNeg)), .ref (ad 0)]) rfl ?_
      refine va_getN (D := D) (ci := 1) (v := .int (sw7 (5 + 2 * (sw7 0 6).toNatClampNeg) 0)) (C := R_T) (T := F_T) (N := 10) hx hb hts in_T hown hK hP (5 + 2 * (sw7 0 6).toNatClampNeg) (cw_k hj10) rfl 0 (by decide) (va_Nw.use rfl (hN _ nk_C_64)) (fun _ h9 => h9) rfl d_C_pass_66 ?_
      refine lv_iload_n hx hb d_C_pass_69 rfl (lv_at hl 1 rfl) ?_
      refine wcV (As := [.int (sw7 (5 + 2 * (sw7 0 6).toNatClampNeg) 0), .int p1]) (rest := []) (na := 2) (c_C_delayMoreUrgentThan l D cI cT cH ad sw7 (sw7 (5 + 2 * (sw7 0 6).toNatClampNeg) 0) p1 hI) ⟨hx, hb, hml, hown, hts⟩ k_424 k_426 k_11 k_24 k_427 (by decide +kernel) (by decide) (by decide) hP hK hN (q0 := 0) (ci := 0) cw_0 rfl hS rfl hl.1 rfl (Nat.le_of_ble_eq_true rfl) d_C_pass_70 (fun H locs hP hS => ?_)
      generalize hw12 : f_C_delayMoreUrgentThan sw7 (sw7 (5 + 2 * (sw7 0 6).toNatClampNeg) 0) p1 = sw11 at hP he
      refine W.eq (g2 := F0 m 73 ls []) rfl ?_
      rw [f_C_pass_S73] at he
      refine lv_aload_n hx hb d_C_pass_73 rfl (lv_at hl 0 rfl) ?_
      refine va_get (D := D) (ci := 0) (v := .int (sw11 0 4)) (C := R_C) (T := F_C) (N := 7) hx hb hts in_C hown hK hP 0 cw_0 rfl 4 (by decide) (hts _ k_133) (fun _ h9 => h9) rfl d_C_pass_74 ?_
      exact vx_ret (W.widen (k := 1) (n := 6) (by decide) (by decide) (W.iret (v := (sw11 0 4)) hx hb hr (fun t ht _ => ⟨⟨(sw11 0 4), (), rfl, ⟨by rw [he], by rw [he]⟩, (by rw [he]; show va_P _ _ _ t.heap; rw [ht]; exact hP)⟩, hS.F ht⟩) hS.2.2 d_C_pass_77))
  · have he := he.trans (if_pos hc1)
    obtain ⟨sa, hsa⟩ := hXR (152, "the clock can not go on by that") (List.mem_of_getElem? (i := 11) rfl)
    exact vx_throwS (own := R_C) (cls := eA) (text := "the clock can not go on by that") (names := xn9) (ik := 59) (is := 152) (ic := 63) (sa := sa) hx hb hl0 hown (by decide) (by decide) (hts _ k_316) (hts _ k_33) hsa (fun w hw => (xat_63 w hw).elim (fun z => hts w z) (fun z => va_Nw.use (xT9_on w z) (hXT w z))) (xgd_63_59) hXU hXN hS (hl.1.trans hml.symm) d_C_pass_10 d_C_pass_13 d_C_pass_14 d_C_pass_16 d_C_pass_19 (fun x h => (hnt x h).elim) (by decide) (by decide) (by decide) (by decide) hlocks (fun t _ hz hq => ⟨(), trivial, ⟨Or.inr ⟨by rw [he], rfl⟩, hP.kept (fun k q hk => hq _ (vx_lt hP hk))⟩, hz, fun q h1 _ => hq q h1⟩) hS.2.2 (by decide) (by decide)
