set_option maxHeartbeats 4000000 in
set_option maxRecDepth 100000 in
theorem c_C_declare (l : Launch) (D : va_G) (cI cT cH : ClassId) (ad : Nat → Nat) (st : St) (p1 : Int32) (p2 : Int32) (p3 : Int32) (p4 : Int32) (hl0 : l.stackTraces = false) (hI : ∀ i j, i < 27 → j < 27 → ad i = ad j → i = j) : vx_Met l y_C_declare w_C_declare { frames := 7, cells := 1, slots := 6, locals := 100 } (va_Pc [.ref (ad 0), .int p1, .int p2, .int p3, .int p4] (xW D cI cT cH (cw cI cT cH ad st) (inA ad 27))) (qXV D (f_C_declare st p1 p2 p3 p4) (fun z => cw cI cT cH ad z) (inA ad 27)) (qX D (f_C_declare st p1 p2 p3 p4) (cw cI cT cH ad st) (inA ad 27)) 1 6 (inA ad 27) := by
  refine vx_ofW (cc := b_C_declare) (maxL := 6) (ret := none) (by decide +kernel) rfl ?_
  intro p e s m args below meth c s₁ B hml hnt hv
  obtain ⟨rfl, ⟨hP, hK, hN⟩, hXU, hXN, hXR, hXT⟩ := hv
  have hx := B.exec
  have hb := B.bytes
  have hr := B.returns
  have hlocks := B.notSynchronized
  have hts0 := atoms_spec (ws := w_C_declare) B.pre
  have hts : ∀ w ∈ TT, w.before [.ref (ad 0), .int p1, .int p2, .int p3, .int p4].toArray s = true := fun w h => hts0 w (List.mem_cons_of_mem _ h)
  have hown : s.vm.findClass R_C = some m.cls := findClass_of_methodNamed B.named
  have hS : va_S (inA ad 27) s.heap s.heap [] := va_S.rf
  have hl := lv_entry ([.ref (ad 0), .int p1, .int p2, .int p3, .int p4]) (n := 6) (Nat.le_of_ble_eq_true rfl)
  rw [lg_entry_eq]
  generalize (lg_sl ([.ref (ad 0), .int p1, .int p2, .int p3, .int p4]) ++ List.replicate (6 - (lg_sl ([.ref (ad 0), .int p1, .int p2, .int p3, .int p4])).length) Slot.unset).toArray = ls at hl ⊢
  have hl : lv_has ls 6 [(0, .ref (ad 0)), (1, .int p1), (2, .int p2), (3, .int p3), (4, .int p4)] := hl
  have he := f_C_declare.eq_1 st p1 p2 p3 p4
  refine lv_aload_n hx hb d_C_declare_0 rfl (lv_at hl 0 rfl) ?_
  refine va_get (D := D) (ci := 0) (v := .int (st 0 3)) (C := R_C) (T := F_C) (N := 7) hx hb hts in_C hown hK hP 0 cw_0 rfl 3 (by decide) (hts _ k_132) (fun _ h9 => h9) rfl d_C_declare_1 ?_
  refine lv_if_ne (tgt := 15) hx hb d_C_declare_4 (by decide) (fun hc1 => ?_) (fun hc1 => ?_)
  · have he := he.trans (if_neg hc1)
    obtain ⟨sa, hsa⟩ := hXR (50, "sealed, or the task is declared") (List.mem_of_getElem? (i := 0) rfl)
    exact vx_throwS (own := R_C) (cls := eS) (text := "sealed, or the task is declared") (names := xn9) (ik := 48) (is := 50) (ic := 52) (sa := sa) hx hb hl0 hown (by decide) (by decide) (hts _ k_249) (hts _ k_32) hsa (fun w hw => (xat_52 w hw).elim (fun z => hts w z) (fun z => va_Nw.use (xT9_on w z) (hXT w z))) (xgd_52_48) hXU hXN hS (hl.1.trans hml.symm) d_C_declare_15 d_C_declare_18 d_C_declare_19 d_C_declare_21 d_C_declare_24 (fun x h => (hnt x h).elim) (by decide) (by decide) (by decide) (by decide) hlocks (fun t _ hz hq => ⟨(), trivial, ⟨Or.inl ⟨by rw [he], rfl⟩, hP.kept (fun k q hk => hq _ (vx_lt hP hk))⟩, hz, fun q h1 _ => hq q h1⟩) hS.2.2 (by decide) (by decide)
  · have he := he.trans (if_pos hc1)
    refine lv_aload_n hx hb d_C_declare_7 rfl (lv_at hl 0 rfl) ?_
    refine lv_iload_n hx hb d_C_declare_8 rfl (lv_at hl 1 rfl) ?_
    refine rdV (As := [.int p1]) (rest := []) (na := 1) (c_C_isDeclared l D cI cT cH ad st p1 ) ⟨hx, hb, hml, hown, hts⟩ k_159 k_161 k_0 k_24 k_162 (by decide +kernel) (by decide) (by decide) hP hK hN (q0 := 0) (ci := 0) cw_0 rfl rfl hl.1 rfl (Nat.le_of_ble_eq_true rfl) d_C_declare_9 ?_
    refine lv_if_eq (tgt := 25) hx hb d_C_declare_12 (by decide) (fun hc2 => ?_) (fun hc2 => ?_)
    · have he := he.trans (if_pos hc2)
      refine lv_iload_n hx hb d_C_declare_25 rfl (lv_at hl 1 rfl) ?_
      refine lv_iconst (v := 0) hx hb d_C_declare_26 (by decide) ?_
      refine lv_bipush (v := 7) hx hb d_C_declare_27 (by decide) ?_
      refine rdS (As := [.int p1, .int 0, .int 7]) (rest := []) (na := 3) (c_C_isIn l p1 0 7 ) ⟨hx, hb, hml, hown, hts⟩ k_163 k_164 k_24 k_165 (by decide +kernel) (by decide) (by decide) rfl hl.1 rfl (Nat.le_of_ble_eq_true rfl) d_C_declare_29 ?_
      refine lv_if_eq (tgt := 67) hx hb d_C_declare_32 (by decide) (fun hc3 => ?_) (fun hc3 => ?_)
      · have he := he.trans (if_pos hc3)
        obtain ⟨sa, hsa⟩ := hXR (61, "no such task, base, cost or period") (List.mem_of_getElem? (i := 1) rfl)
        exact vx_throwS (own := R_C) (cls := eA) (text := "no such task, base, cost or period") (names := xn9) (ik := 59) (is := 61) (ic := 63) (sa := sa) hx hb hl0 hown (by decide) (by decide) (hts _ k_316) (hts _ k_33) hsa (fun w hw => (xat_63 w hw).elim (fun z => hts w z) (fun z => va_Nw.use (xT9_on w z) (hXT w z))) (xgd_63_59) hXU hXN hS (hl.1.trans hml.symm) d_C_declare_67 d_C_declare_70 d_C_declare_71 d_C_declare_73 d_C_declare_76 (fun x h => (hnt x h).elim) (by decide) (by decide) (by decide) (by decide) hlocks (fun t _ hz hq => ⟨(), trivial, ⟨Or.inr ⟨by rw [he], rfl⟩, hP.kept (fun k q hk => hq _ (vx_lt hP hk))⟩, hz, fun q h1 _ => hq q h1⟩) hS.2.2 (by decide) (by decide)
      · have he := he.trans (if_neg hc3)
        refine lv_iload_n hx hb d_C_declare_35 rfl (lv_at hl 2 rfl) ?_
        refine lv_iconst (v := 1) hx hb d_C_declare_36 (by decide) ?_
        refine lv_bipush (v := 16) hx hb d_C_declare_37 (by decide) ?_
        refine rdS (As := [.int p2, .int 1, .int 16]) (rest := []) (na := 3) (c_C_isIn l p2 1 16 ) ⟨hx, hb, hml, hown, hts⟩ k_163 k_164 k_24 k_165 (by decide +kernel) (by decide) (by decide) rfl hl.1 rfl (Nat.le_of_ble_eq_true rfl) d_C_declare_39 ?_
        refine lv_if_eq (tgt := 67) hx hb d_C_declare_42 (by decide) (fun hc4 => ?_) (fun hc4 => ?_)
        · have he := he.trans (if_pos hc4)
          obtain ⟨sa, hsa⟩ := hXR (61, "no such task, base, cost or period") (List.mem_of_getElem? (i := 1) rfl)
          exact vx_throwS (own := R_C) (cls := eA) (text := "no such task, base, cost or period") (names := xn9) (ik := 59) (is := 61) (ic := 63) (sa := sa) hx hb hl0 hown (by decide) (by decide) (hts _ k_316) (hts _ k_33) hsa (fun w hw => (xat_63 w hw).elim (fun z => hts w z) (fun z => va_Nw.use (xT9_on w z) (hXT w z))) (xgd_63_59) hXU hXN hS (hl.1.trans hml.symm) d_C_declare_67 d_C_declare_70 d_C_declare_71 d_C_declare_73 d_C_declare_76 (fun x h => (hnt x h).elim) (by decide) (by decide) (by decide) (by decide) hlocks (fun t _ hz hq => ⟨(), trivial, ⟨Or.inr ⟨by rw [he], rfl⟩, hP.kept (fun k q hk => hq _ (vx_lt hP hk))⟩, hz, fun q h1 _ => hq q h1⟩) hS.2.2 (by decide) (by decide)
        · have he := he.trans (if_neg hc4)
          refine lv_iload_n hx hb d_C_declare_45 rfl (lv_at hl 3 rfl) ?_
          refine lv_iconst (v := 1) hx hb d_C_declare_46 (by decide) ?_
          refine lv_bipush (v := 50) hx hb d_C_declare_47 (by decide) ?_
          refine rdS (As := [.int p3, .int 1, .int 50]) (rest := []) (na := 3) (c_C_isIn l p3 1 50 ) ⟨hx, hb, hml, hown, hts⟩ k_163 k_164 k_24 k_165 (by decide +kernel) (by decide) (by decide) rfl hl.1 rfl (Nat.le_of_ble_eq_true rfl) d_C_declare_49 ?_
          refine lv_if_eq (tgt := 67) hx hb d_C_declare_52 (by decide) (fun hc5 => ?_) (fun hc5 => ?_)
          · have he := he.trans (if_pos hc5)
            obtain ⟨sa, hsa⟩ := hXR (61, "no such task, base, cost or period") (List.mem_of_getElem? (i := 1) rfl)
            exact vx_throwS (own := R_C) (cls := eA) (text := "no such task, base, cost or period") (names := xn9) (ik := 59) (is := 61) (ic := 63) (sa := sa) hx hb hl0 hown (by decide) (by decide) (hts _ k_316) (hts _ k_33) hsa (fun w hw => (xat_63 w hw).elim (fun z => hts w z) (fun z => va_Nw.use (xT9_on w z) (hXT w z))) (xgd_63_59) hXU hXN hS (hl.1.trans hml.symm) d_C_declare_67 d_C_declare_70 d_C_declare_71 d_C_declare_73 d_C_declare_76 (fun x h => (hnt x h).elim) (by decide) (by decide) (by decide) (by decide) hlocks (fun t _ hz hq => ⟨(), trivial, ⟨Or.inr ⟨by rw [he], rfl⟩, hP.kept (fun k q hk => hq _ (vx_lt hP hk))⟩, hz, fun q h1 _ => hq q h1⟩) hS.2.2 (by decide) (by decide)
          · have he := he.trans (if_neg hc5)
            refine lv_iload hx hb d_C_declare_55 (lv_at hl 4 rfl) ?_
            refine lv_iconst (v := 1) hx hb d_C_declare_57 (by decide) ?_
            refine lv_sipush (v := 200) hx hb d_C_declare_58 (by decide) ?_
            refine rdS (As := [.int p4, .int 1, .int 200]) (rest := []) (na := 3) (c_C_isIn l p4 1 200 ) ⟨hx, hb, hml, hown, hts⟩ k_163 k_164 k_24 k_165 (by decide +kernel) (by decide) (by decide) rfl hl.1 rfl (Nat.le_of_ble_eq_true rfl) d_C_declare_61 ?_
            refine lv_if_ne (tgt := 77) hx hb d_C_declare_64 (by decide) (fun hc6 => ?_) (fun hc6 => ?_)
            · have he := he.trans (if_neg hc6)
              refine lv_aload_n hx hb d_C_declare_77 rfl (lv_at hl 0 rfl) ?_
              refine va_get (D := D) (ci := 0) (v := .ref (ad 1)) (C := R_C) (T := F_C) (N := 7) hx hb hts in_C hown hK hP 0 cw_0 rfl 0 (by decide) (hts _ k_129) (fun _ h9 => h9) rfl d_C_declare_78 ?_
              refine lv_iload_n hx hb d_C_declare_81 rfl (lv_at hl 1 rfl) ?_
              have hi7 : vp_in p1 8 := (by first | with_reducible assumption | exact vi_isIn7 (by with_reducible assumption) | exact vi_isThing (by with_reducible assumption) | exact vi_decl (by with_reducible assumption) | exact vi_ready (by with_reducible assumption) | exact vi_run (by with_reducible assumption) (by with_reducible assumption) | exact vi_run (by with_reducible assumption) (vi_runner _) | exact vi_mTask (by with_reducible assumption) | exact vi_mThing (by with_reducible assumption) | exact vi_mdecl (by with_reducible assumption) | exact vi_mready (by with_reducible assumption))
              refine va_aldq hx hb hK hP 1 1 cw_1 rfl hi7 d_C_declare_82 ?_
              have hj8 : p1.toNatClampNeg < 8 := vi_lt hi7
              refine W.eq (g2 := F0 m 83 ls [.ref (ad (5 + 2 * p1.toNatClampNeg))]) rfl ?_
              refine lv_astore hx hb d_C_declare_83 hl (by decide) rfl (fun ls hl => ?_)
              have hl : lv_has ls 6 [(5, .ref (ad (5 + 2 * p1.toNatClampNeg))), (0, .ref (ad 0)), (1, .int p1), (2, .int p2), (3, .int p3), (4, .int p4)] := hl
              refine lv_aload hx hb d_C_declare_85 (lv_at hl 0 rfl) ?_
              refine lv_iload_n hx hb d_C_declare_87 rfl (lv_at hl 3 rfl) ?_
              refine va_putN (D := D) (ci := 1) (v := .int p2) (ty := .int) (C := R_T) (T := F_T) (N := 10) hx hb hts in_T ft_T ft_T_ok n_T hown hK hP (cw_D hI) hS (5 + 2 * p1.toNatClampNeg) (cw_k hj8) rfl 0 (by decide) (va_Nw.use rfl (hN _ nk_C_64)) (fun _ h9 => h9) rfl (by decide +kernel) rfl rfl (Nat.le_of_ble_eq_true rfl) d_C_declare_88 (fun H locs hP _ hS => ?_)
              rw [cp_k (k := 0) hj8 (by decide) (by decide)] at hP
              generalize hw10 : wr st (5 + 2 * p1.toNatClampNeg) 0 p2 = sw9 at hP he
              refine W.eq (g2 := F0 m 91 ls []) rfl ?_
              rw [f_C_declare_S91] at he
              refine lv_aload hx hb d_C_declare_91 (lv_at hl 0 rfl) ?_
              refine lv_iload_n hx hb d_C_declare_93 rfl (lv_at hl 4 rfl) ?_
              refine va_putN (D := D) (ci := 1) (v := .int p3) (ty := .int) (C := R_T) (T := F_T) (N := 10) hx hb hts in_T ft_T ft_T_ok n_T hown hK hP (cw_D hI) hS (5 + 2 * p1.toNatClampNeg) (cw_k hj8) rfl 1 (by decide) (va_Nw.use rfl (hN _ nk_C_67)) (fun _ h9 => h9) rfl (by decide +kernel) rfl rfl (Nat.le_of_ble_eq_true rfl) d_C_declare_94 (fun H locs hP _ hS => ?_)
              rw [cp_k (k := 1) hj8 (by decide) (by decide)] at hP
              generalize hw12 : wr sw9 (5 + 2 * p1.toNatClampNeg) 1 p3 = sw11 at hP he
              refine W.eq (g2 := F0 m 97 ls []) rfl ?_
              rw [f_C_declare_S97] at he
              refine lv_aload hx hb d_C_declare_97 (lv_at hl 0 rfl) ?_
              refine lv_iload hx hb d_C_declare_99 (lv_at hl 5 rfl) ?_
              refine va_putN (D := D) (ci := 1) (v := .int p4) (ty := .int) (C := R_T) (T := F_T) (N := 10) hx hb hts in_T ft_T ft_T_ok n_T hown hK hP (cw_D hI) hS (5 + 2 * p1.toNatClampNeg) (cw_k hj8) rfl 2 (by decide) (va_Nw.use rfl (hN _ nk_C_70)) (fun _ h9 => h9) rfl (by decide +kernel) rfl rfl (Nat.le_of_ble_eq_true rfl) d_C_declare_101 (fun H locs hP _ hS => ?_)
              rw [cp_k (k := 2) hj8 (by decide) (by decide)] at hP
              generalize hw14 : wr sw11 (5 + 2 * p1.toNatClampNeg) 2 p4 = sw13 at hP he
              refine W.eq (g2 := F0 m 104 ls []) rfl ?_
              exact vx_ret (W.widen (k := 1) (n := 6) (by decide) (by decide) (W.vret hx hb hr (fun t ht _ => ⟨⟨(), rfl, by rw [he], (by rw [he]; show va_P _ _ _ t.heap; rw [ht]; exact hP)⟩, hS.F ht⟩) hS.2.2 d_C_declare_104))
            · have he := he.trans (if_pos hc6)
              obtain ⟨sa, hsa⟩ := hXR (61, "no such task, base, cost or period") (List.mem_of_getElem? (i := 1) rfl)
              exact vx_throwS (own := R_C) (cls := eA) (text := "no such task, base, cost or period") (names := xn9) (ik := 59) (is := 61) (ic := 63) (sa := sa) hx hb hl0 hown (by decide) (by decide) (hts _ k_316) (hts _ k_33) hsa (fun w hw => (xat_63 w hw).elim (fun z => hts w z) (fun z => va_Nw.use (xT9_on w z) (hXT w z))) (xgd_63_59) hXU hXN hS (hl.1.trans hml.symm) d_C_declare_67 d_C_declare_70 d_C_declare_71 d_C_declare_73 d_C_declare_76 (fun x h => (hnt x h).elim) (by decide) (by decide) (by decide) (by decide) hlocks (fun t _ hz hq => ⟨(), trivial, ⟨Or.inr ⟨by rw [he], rfl⟩, hP.kept (fun k q hk => hq _ (vx_lt hP hk))⟩, hz, fun q h1 _ => hq q h1⟩) hS.2.2 (by decide) (by decide)
    · have he := he.trans (if_neg hc2)
      obtain ⟨sa, hsa⟩ := hXR (50, "sealed, or the task is declared") (List.mem_of_getElem? (i := 0) rfl)
      exact vx_throwS (own := R_C) (cls := eS) (text := "sealed, or the task is declared") (names := xn9) (ik := 48) (is := 50) (ic := 52) (sa := sa) hx hb hl0 hown (by decide) (by decide) (hts _ k_249) (hts _ k_32) hsa (fun w hw => (xat_52 w hw).elim (fun z => hts w z) (fun z => va_Nw.use (xT9_on w z) (hXT w z))) (xgd_52_48) hXU hXN hS (hl.1.trans hml.symm) d_C_declare_15 d_C_declare_18 d_C_declare_19 d_C_declare_21 d_C_declare_24 (fun x h => (hnt x h).elim) (by decide) (by decide) (by decide) (by decide) hlocks (fun t _ hz hq => ⟨(), trivial, ⟨Or.inl ⟨by rw [he], rfl⟩, hP.kept (fun k q hk => hq _ (vx_lt hP hk))⟩, hz, fun q h1 _ => hq q h1⟩) hS.2.2 (by decide) (by decide)
set_option maxHeartbeats 4000000 in
set_option maxRecDepth 100000 in
theorem c_C_mayUse (l : Launch) (D : va_G) (cI cT cH : ClassId) (ad : Nat → Nat) (st : St) (p1 : Int32) (p2 : Int32) (p3 : Int32) (hl0 : l.stackTraces = false) (hI : ∀ i j, i < 27 → j < 27 → ad i = ad j → i = j) : vx_Met l y_C_mayUse w_C_mayUse { frames := 7, cells := 1, slots := 6, locals := 100 } (va_Pc [.ref (ad 0), .int p1, .int p2, .int p3] (xW D cI cT cH (cw cI cT cH ad st) (inA ad 27))) (qXV D (f_C_mayUse st p1 p2 p3) (fun z => cw cI cT cH ad z) (inA ad 27)) (qX D (f_C_mayUse st p1 p2 p3) (cw cI cT cH ad st) (inA ad 27)) 1 6 (inA ad 27) := by
  refine vx_ofW (cc := b_C_mayUse) (maxL := 4) (ret := none) (by decide +kernel) rfl ?_
  intro p e s m args below meth c s₁ B hml hnt hv
  obtain ⟨rfl, ⟨hP, hK, hN⟩, hXU, hXN, hXR, hXT⟩ := hv
  have hx := B.exec
  have hb := B.bytes
  have hr := B.returns
  have hlocks := B.notSynchronized
  have hts0 := atoms_spec (ws := w_C_mayUse) B.pre
  have hts : ∀ w ∈ TT, w.before [.ref (ad 0), .int p1, .int p2, .int p3].toArray s = true := fun w h => hts0 w (List.mem_cons_of_mem _ h)
  have hown : s.vm.findClass R_C = some m.cls := findClass_of_methodNamed B.named
  have hS : va_S (inA ad 27) s.heap s.heap [] := va_S.rf
  have hl := lv_entry ([.ref (ad 0), .int p1, .int p2, .int p3]) (n := 4) (Nat.le_of_ble_eq_true rfl)
  rw [lg_entry_eq]
  generalize (lg_sl ([.ref (ad 0), .int p1, .int p2, .int p3]) ++ List.replicate (4 - (lg_sl ([.ref (ad 0), .int p1, .int p2, .int p3])).length) Slot.unset).toArray = ls at hl ⊢
  have hl : lv_has ls 4 [(0, .ref (ad 0)), (1, .int p1), (2, .int p2), (3, .int p3)] := hl
  have he := f_C_mayUse.eq_1 st p1 p2 p3
  refine lv_aload_n hx hb d_C_mayUse_0 rfl (lv_at hl 0 rfl) ?_
  refine va_get (D := D) (ci := 0) (v := .int (st 0 3)) (C := R_C) (T := F_C) (N := 7) hx hb hts in_C hown hK hP 0 cw_0 rfl 3 (by decide) (hts _ k_132) (fun _ h9 => h9) rfl d_C_mayUse_1 ?_
  refine lv_if_eq (tgt := 17) hx hb d_C_mayUse_4 (by decide) (fun hc1 => ?_) (fun hc1 => ?_)
  · have he := he.trans (if_pos hc1)
    refine lv_aload_n hx hb d_C_mayUse_17 rfl (lv_at hl 0 rfl) ?_
    refine lv_iload_n hx hb d_C_mayUse_18 rfl (lv_at hl 1 rfl) ?_
    refine rdV (As := [.int p1]) (rest := []) (na := 1) (c_C_isDeclared l D cI cT cH ad st p1 ) ⟨hx, hb, hml, hown, hts⟩ k_159 k_161 k_0 k_24 k_162 (by decide +kernel) (by decide) (by decide) hP hK hN (q0 := 0) (ci := 0) cw_0 rfl rfl hl.1 rfl (Nat.le_of_ble_eq_true rfl) d_C_mayUse_19 ?_
    refine lv_if_eq (tgt := 42) hx hb d_C_mayUse_22 (by decide) (fun hc2 => ?_) (fun hc2 => ?_)
    · have he := he.trans (if_pos hc2)
      obtain ⟨sa, hsa⟩ := hXR (77, "the task is not declared, or no such thing or length") (List.mem_of_getElem? (i := 3) rfl)
      exact vx_throwS (own := R_C) (cls := eA) (text := "the task is not declared, or no such thing or length") (names := xn9) (ik := 59) (is := 77) (ic := 63) (sa := sa) hx hb hl0 hown (by decide) (by decide) (hts _ k_316) (hts _ k_33) hsa (fun w hw => (xat_63 w hw).elim (fun z => hts w z) (fun z => va_Nw.use (xT9_on w z) (hXT w z))) (xgd_63_59) hXU hXN hS (hl.1.trans hml.symm) d_C_mayUse_42 d_C_mayUse_45 d_C_mayUse_46 d_C_mayUse_48 d_C_mayUse_51 (fun x h => (hnt x h).elim) (by decide) (by decide) (by decide) (by decide) hlocks (fun t _ hz hq => ⟨(), trivial, ⟨Or.inr ⟨by rw [he], rfl⟩, hP.kept (fun k q hk => hq _ (vx_lt hP hk))⟩, hz, fun q h1 _ => hq q h1⟩) hS.2.2 (by decide) (by decide)
    · have he := he.trans (if_neg hc2)
      refine lv_iload_n hx hb d_C_mayUse_25 rfl (lv_at hl 2 rfl) ?_
      refine rdS (As := [.int p2]) (rest := []) (na := 1) (c_C_isThing l p2 ) ⟨hx, hb, hml, hown, hts⟩ k_186 k_187 k_24 k_188 (by decide +kernel) (by decide) (by decide) rfl hl.1 rfl (Nat.le_of_ble_eq_true rfl) d_C_mayUse_26 ?_
      refine lv_if_eq (tgt := 42) hx hb d_C_mayUse_29 (by decide) (fun hc3 => ?_) (fun hc3 => ?_)
      · have he := he.trans (if_pos hc3)
        obtain ⟨sa, hsa⟩ := hXR (77, "the task is not declared, or no such thing or length") (List.mem_of_getElem? (i := 3) rfl)
        exact vx_throwS (own := R_C) (cls := eA) (text := "the task is not declared, or no such thing or length") (names := xn9) (ik := 59) (is := 77) (ic := 63) (sa := sa) hx hb hl0 hown (by decide) (by decide) (hts _ k_316) (hts _ k_33) hsa (fun w hw => (xat_63 w hw).elim (fun z => hts w z) (fun z => va_Nw.use (xT9_on w z) (hXT w z))) (xgd_63_59) hXU hXN hS (hl.1.trans hml.symm) d_C_mayUse_42 d_C_mayUse_45 d_C_mayUse_46 d_C_mayUse_48 d_C_mayUse_51 (fun x h => (hnt x h).elim) (by decide) (by decide) (by decide) (by decide) hlocks (fun t _ hz hq => ⟨(), trivial, ⟨Or.inr ⟨by rw [he], rfl⟩, hP.kept (fun k q hk => hq _ (vx_lt hP hk))⟩, hz, fun q h1 _ => hq q h1⟩) hS.2.2 (by decide) (by decide)
      · have he := he.trans (if_neg hc3)
        refine lv_iload_n hx hb d_C_mayUse_32 rfl (lv_at hl 3 rfl) ?_
        refine lv_iconst (v := 1) hx hb d_C_mayUse_33 (by decide) ?_
        refine lv_bipush (v := 50) hx hb d_C_mayUse_34 (by decide) ?_
        refine rdS (As := [.int p3, .int 1, .int 50]) (rest := []) (na := 3) (c_C_isIn l p3 1 50 ) ⟨hx, hb, hml, hown, hts⟩ k_163 k_164 k_24 k_165 (by decide +kernel) (by decide) (by decide) rfl hl.1 rfl (Nat.le_of_ble_eq_true rfl) d_C_mayUse_36 ?_
        refine lv_if_ne (tgt := 52) hx hb d_C_mayUse_39 (by decide) (fun hc4 => ?_) (fun hc4 => ?_)
        · have he := he.trans (if_neg hc4)
          refine lv_aload_n hx hb d_C_mayUse_52 rfl (lv_at hl 0 rfl) ?_
          refine va_get (D := D) (ci := 0) (v := .ref (ad 1)) (C := R_C) (T := F_C) (N := 7) hx hb hts in_C hown hK hP 0 cw_0 rfl 0 (by decide) (hts _ k_129) (fun _ h9 => h9) rfl d_C_mayUse_53 ?_
          refine lv_iload_n hx hb d_C_mayUse_56 rfl (lv_at hl 1 rfl) ?_
          have hi5 : vp_in p1 8 := (by first | with_reducible assumption | exact vi_isIn7 (by with_reducible assumption) | exact vi_isThing (by with_reducible assumption) | exact vi_decl (by with_reducible assumption) | exact vi_ready (by with_reducible assumption) | exact vi_run (by with_reducible assumption) (by with_reducible assumption) | exact vi_run (by with_reducible assumption) (vi_runner _) | exact vi_mTask (by with_reducible assumption) | exact vi_mThing (by with_reducible assumption) | exact vi_mdecl (by with_reducible assumption) | exact vi_mready (by with_reducible assumption))
          refine va_aldq hx hb hK hP 1 1 cw_1 rfl hi5 d_C_mayUse_57 ?_
          have hj6 : p1.toNatClampNeg < 8 := vi_lt hi5
          refine W.eq (g2 := F0 m 58 ls [.ref (ad (5 + 2 * p1.toNatClampNeg))]) rfl ?_
          refine va_getN (D := D) (ci := 1) (v := .ref (ad (5 + 2 * p1.toNatClampNeg + 1))) (C := R_T) (T := F_T) (N := 10) hx hb hts in_T hown hK hP (5 + 2 * p1.toNatClampNeg) (cw_k hj6) rfl 3 (by decide) (va_Nw.use rfl (hN _ nk_C_79)) (fun _ h9 => h9) rfl d_C_mayUse_58 ?_
          refine lv_iload_n hx hb d_C_mayUse_61 rfl (lv_at hl 2 rfl) ?_
          refine lv_iload_n hx hb d_C_mayUse_62 rfl (lv_at hl 3 rfl) ?_
          have hi7 : vp_in p2 6 := (by first | with_reducible assumption | exact vi_isIn7 (by with_reducible assumption) | exact vi_isThing (by with_reducible assumption) | exact vi_decl (by with_reducible assumption) | exact vi_ready (by with_reducible assumption) | exact vi_run (by with_reducible assumption) (by with_reducible assumption) | exact vi_run (by with_reducible assumption) (vi_runner _) | exact vi_mTask (by with_reducible assumption) | exact vi_mThing (by with_reducible assumption) | exact vi_mdecl (by with_reducible assumption) | exact vi_mready (by with_reducible assumption))
          refine va_iast hx hb hK hP (cw_D hI) hS (5 + 2 * p1.toNatClampNeg + 1) 0 (cw_l hj6) rfl hi7 d_C_mayUse_63 (fun H locs hP _ hS => ?_)
          rw [cp_l hj6] at hP
          generalize hw9 : wr st (5 + 2 * p1.toNatClampNeg + 1) p2.toNatClampNeg p3 = sw8 at hP he
          refine W.eq (g2 := F0 m 64 ls []) rfl ?_
          exact vx_ret (W.widen (k := 1) (n := 6) (by decide) (by decide) (W.vret hx hb hr (fun t ht _ => ⟨⟨(), rfl, by rw [he], (by rw [he]; show va_P _ _ _ t.heap; rw [ht]; exact hP)⟩, hS.F ht⟩) hS.2.2 d_C_mayUse_64))
        · have he := he.trans (if_pos hc4)
          obtain ⟨sa, hsa⟩ := hXR (77, "the task is not declared, or no such thing or length") (List.mem_of_getElem? (i := 3) rfl)
          exact vx_throwS (own := R_C) (cls := eA) (text := "the task is not declared, or no such thing or length") (names := xn9) (ik := 59) (is := 77) (ic := 63) (sa := sa) hx hb hl0 hown (by decide) (by decide) (hts _ k_316) (hts _ k_33) hsa (fun w hw => (xat_63 w hw).elim (fun z => hts w z) (fun z => va_Nw.use (xT9_on w z) (hXT w z))) (xgd_63_59) hXU hXN hS (hl.1.trans hml.symm) d_C_mayUse_42 d_C_mayUse_45 d_C_mayUse_46 d_C_mayUse_48 d_C_mayUse_51 (fun x h => (hnt x h).elim) (by decide) (by decide) (by decide) (by decide) hlocks (fun t _ hz hq => ⟨(), trivial, ⟨Or.inr ⟨by rw [he], rfl⟩, hP.kept (fun k q hk => hq _ (vx_lt hP hk))⟩, hz, fun q h1 _ => hq q h1⟩) hS.2.2 (by decide) (by decide)
  · have he := he.trans (if_neg hc1)
    obtain ⟨sa, hsa⟩ := hXR (73, "sealed") (List.mem_of_getElem? (i := 2) rfl)
    exact vx_throwS (own := R_C) (cls := eS) (text := "sealed") (names := xn9) (ik := 48) (is := 73) (ic := 52) (sa := sa) hx hb hl0 hown (by decide) (by decide) (hts _ k_249) (hts _ k_32) hsa (fun w hw => (xat_52 w hw).elim (fun z => hts w z) (fun z => va_Nw.use (xT9_on w z) (hXT w z))) (xgd_52_48) hXU hXN hS (hl.1.trans hml.symm) d_C_mayUse_7 d_C_mayUse_10 d_C_mayUse_11 d_C_mayUse_13 d_C_mayUse_16 (fun x h => (hnt x h).elim) (by decide) (by decide) (by decide) (by decide) hlocks (fun t _ hz hq => ⟨(), trivial, ⟨Or.inl ⟨by rw [he], rfl⟩, hP.kept (fun k q hk => hq _ (vx_lt hP hk))⟩, hz, fun q h1 _ => hq q h1⟩) hS.2.2 (by decide) (by decide)
set_option maxHeartbeats 4000000 in
set_option maxRecDepth 100000 in
theorem c_C_seal (l : Launch) (D : va_G) (cI cT cH : ClassId) (ad : Nat → Nat) (st : St) (hl0 : l.stackTraces = false) (hI : ∀ i j, i < 27 → j < 27 → ad i = ad j → i = j) : vx_Met l y_C_seal w_C_seal { frames := 7, cells := 1, slots := 6, locals := 100 } (va_Pc [.ref (ad 0)] (xW D cI cT cH (cw cI cT cH ad st) (inA ad 27))) (qXI D (f_C_seal st) (fun z => cw cI cT cH ad z) (inA ad 27)) (qX D (f_C_seal st) (cw cI cT cH ad st) (inA ad 27)) 1 6 (inA ad 27) := by
  refine vx_ofW (cc := b_C_seal) (maxL := 2) (ret := (some .int)) (by decide +kernel) rfl ?_
  intro p e s m args below meth c s₁ B hml hnt hv
  obtain ⟨rfl, ⟨hP, hK, hN⟩, hXU, hXN, hXR, hXT⟩ := hv
  have hx := B.exec
  have hb := B.bytes
  have hr := B.returns
  have hlocks := B.notSynchronized
  have hts0 := atoms_spec (ws := w_C_seal) B.pre
  have hts : ∀ w ∈ TT, w.before [.ref (ad 0)].toArray s = true := fun w h => hts0 w (List.mem_cons_of_mem _ h)
  have hown : s.vm.findClass R_C = some m.cls := findClass_of_methodNamed B.named
  have hS : va_S (inA ad 27) s.heap s.heap [] := va_S.rf
  have hl := lv_entry ([.ref (ad 0)]) (n := 2) (Nat.le_of_ble_eq_true rfl)
  rw [lg_entry_eq]
  generalize (lg_sl ([.ref (ad 0)]) ++ List.replicate (2 - (lg_sl ([.ref (ad 0)])).length) Slot.unset).toArray = ls at hl ⊢
  have hl : lv_has ls 2 [(0, .ref (ad 0))] := hl
  have L24 : ∀ (n i : Nat) (sl : St) (H : Heap) (locs : List Loc) (ls : Array Slot), i + n = 6 → lv_has ls 2 [(0, .ref (ad 0)), (1, .int (nI i))] → va_P D cls9 (cw cI cT cH ad sl) H → va_S (inA ad 27) s.heap H locs → f_C_seal st = f_C_seal_L24 n i sl → W p l e (headSpec w_C_seal { frames := 7, cells := 1, slots := 6, locals := 100 }).room s m [.ref (ad 0)].toArray below meth c H locs 0 0 (vx_MQ below (qXI D (f_C_seal st) (fun z => cw cI cT cH ad z) (inA ad 27)) (qX D (f_C_seal st) (cw cI cT cH ad st) (inA ad 27)) [.ref (ad 0)].toArray s 1 6 (inA ad 27)) (F0 m 24 ls []) := by
    intro n
    induction n with
    | zero =>
      intro i sl H locs ls hcnt hl hP hS he
      have hz : i = 6 := by omega
      subst hz
      rw [f_C_seal_L24] at he
      refine lv_iload_n hx hb d_C_seal_24 rfl (lv_at hl 1 rfl) ?_
      refine lv_bipush (v := 6) hx hb d_C_seal_25 (by decide) ?_
      refine lv_icmp_ge (tgt := 50) hx hb d_C_seal_27 (by decide) (fun _ => ?_) (fun h9 => absurd (by decide) h9)
      refine lv_aload_n hx hb d_C_seal_50 rfl (lv_at hl 0 rfl) ?_
      refine rdV (As := []) (rest := []) (na := 0) (c_C_countDeclared l D cI cT cH ad sl  ) ⟨hx, hb, hml, hown, hts⟩ k_356 k_358 k_7 k_24 k_359 (by decide +kernel) (by decide) (by decide) hP hK hN (q0 := 0) (ci := 0) cw_0 rfl rfl hl.1 rfl (Nat.le_of_ble_eq_true rfl) d_C_seal_51 ?_
      exact vx_ret (W.widen (k := 1) (n := 6) (by decide) (by decide) (W.iret (v := (f_C_countDeclared sl)) hx hb hr (fun t ht _ => ⟨⟨(f_C_countDeclared sl), (), rfl, ⟨by rw [he], by rw [he]⟩, (by rw [he]; show va_P _ _ _ t.heap; rw [ht]; exact hP)⟩, hS.F ht⟩) hS.2.2 d_C_seal_54))
    | succ n ih =>
      intro i sl H locs ls hcnt hl hP hS he
      have hi8 : i < 6 := by omega
      rw [f_C_seal_L24] at he
      refine lv_iload_n hx hb d_C_seal_24 rfl (lv_at hl 1 rfl) ?_
      refine lv_bipush (v := 6) hx hb d_C_seal_25 (by decide) ?_
      refine lv_icmp_ge (tgt := 50) hx hb d_C_seal_27 (by decide) (fun h9 => absurd h9 (nlt_6 hi8)) (fun _ => ?_)
      refine lv_aload_n hx hb d_C_seal_30 rfl (lv_at hl 0 rfl) ?_
      refine va_get (D := D) (ci := 0) (v := .ref (ad 2)) (C := R_C) (T := F_C) (N := 7) hx hb hts in_C hown hK hP 0 cw_0 rfl 1 (by decide) (hts _ k_130) (fun _ h9 => h9) rfl d_C_seal_31 ?_
      refine lv_iload_n hx hb d_C_seal_34 rfl (lv_at hl 1 rfl) ?_
      have hi1 : vp_in (nI i) 6 := (vp_in_nI (by omega) (by decide))
      refine va_aldq hx hb hK hP 2 2 cw_2 rfl hi1 d_C_seal_35 ?_
      have hj2 : (nI i).toNatClampNeg < 6 := vi_lt hi1
      rw [show (nI i).toNatClampNeg = i from nI_clamp (by omega)]
      rw [show (nI i).toNatClampNeg = i from nI_clamp (by omega)] at hj2
      refine W.eq (g2 := F0 m 36 ls [.ref (ad (21 + i))]) rfl ?_
      refine lv_aload_n hx hb d_C_seal_36 rfl (lv_at hl 0 rfl) ?_
      refine lv_iload_n hx hb d_C_seal_37 rfl (lv_at hl 1 rfl) ?_
      refine rdV (As := [.int (nI i)]) (rest := [.ref (ad (21 + i))]) (na := 1) (c_C_greatestBaseOfUsers l D cI cT cH ad sl (nI i) (vp_in_nI (by omega) (by decide))) ⟨hx, hb, hml, hown, hts⟩ k_348 k_350 k_6 k_24 k_351 (by decide +kernel) (by decide) (by decide) hP hK hN (q0 := 0) (ci := 0) cw_0 rfl rfl hl.1 rfl (Nat.le_of_ble_eq_true rfl) d_C_seal_38 ?_
      refine va_putN (D := D) (ci := 2) (v := .int (f_C_greatestBaseOfUsers sl (nI i))) (ty := .int) (C := R_H) (T := F_H) (N := 4) hx hb hts in_H ft_H ft_H_ok n_H hown hK hP (cw_D hI) hS (21 + i) (cw_h hj2) rfl 0 (by decide) (va_Nw.use rfl (hN _ nk_C_87)) (fun _ h9 => h9) rfl (by decide +kernel) rfl rfl (Nat.le_of_ble_eq_true rfl) d_C_seal_41 (fun H locs hP _ hS => ?_)
      rw [cp_h (k := 0) hj2 (by decide)] at hP
      generalize hw4 : wr sl (21 + i) 0 (f_C_greatestBaseOfUsers sl (nI i)) = sw3 at hP he
      refine W.eq (g2 := F0 m 44 ls []) rfl ?_
      refine lv_iinc (k := 1) (v := (nI (i + 1))) hx hb d_C_seal_44 hl rfl (by first | rfl | (rw [nI_succ]; rfl)) (by decide) rfl (fun ls hl => ?_)
      have hl : lv_has ls 2 [(1, .int (nI (i + 1))), (0, .ref (ad 0))] := hl
      refine lv_goto (tgt := 24) hx hb d_C_seal_47 (by decide) ?_
      exact ih (i + 1) sw3 H locs ls (by omega) (lv_sub hl [1, 0] rfl) hP hS he
  have he := f_C_seal.eq_1 st
  refine lv_aload_n hx hb d_C_seal_0 rfl (lv_at hl 0 rfl) ?_
  refine va_get (D := D) (ci := 0) (v := .int (st 0 3)) (C := R_C) (T := F_C) (N := 7) hx hb hts in_C hown hK hP 0 cw_0 rfl 3 (by decide) (hts _ k_132) (fun _ h9 => h9) rfl d_C_seal_1 ?_
  refine lv_if_eq (tgt := 17) hx hb d_C_seal_4 (by decide) (fun hc5 => ?_) (fun hc5 => ?_)
  · have he := he.trans (if_pos hc5)
    refine lv_aload_n hx hb d_C_seal_17 rfl (lv_at hl 0 rfl) ?_
    refine lv_iconst (v := 1) hx hb d_C_seal_18 (by decide) ?_
    refine va_put (D := D) (ci := 0) (v := .int 1) (ty := .boolean) (C := R_C) (T := F_C) (N := 7) hx hb hts in_C ft_C ft_C_ok n_C hown hK hP (cw_D hI) hS 0 cw_0 rfl 3 (by decide) (hts _ k_132) (fun _ h9 => h9) rfl (by decide +kernel) rfl rfl (Nat.le_of_ble_eq_true rfl) d_C_seal_19 (fun H locs hP _ hS => ?_)
    rw [cp_0 (k := 3) (by decide)] at hP
    generalize hw7 : wr st 0 3 1 = sw6 at hP he
    refine W.eq (g2 := F0 m 22 ls []) rfl ?_
    rw [f_C_seal_S22] at he
    refine lv_iconst (v := 0) hx hb d_C_seal_22 (by decide) ?_
    refine lv_istore_n hx hb d_C_seal_23 rfl hl (by decide) rfl (fun ls hl => ?_)
    have hl : lv_has ls 2 [(1, .int 0), (0, .ref (ad 0))] := hl
    exact L24 6 0 sw6 H locs ls (by first | decide | omega) (lv_sub hl [1, 0] rfl) hP hS he
  · have he := he.trans (if_neg hc5)
    obtain ⟨sa, hsa⟩ := hXR (73, "sealed") (List.mem_of_getElem? (i := 2) rfl)
    exact vx_throwS (own := R_C) (cls := eS) (text := "sealed") (names := xn9) (ik := 48) (is := 73) (ic := 52) (sa := sa) hx hb hl0 hown (by decide) (by decide) (hts _ k_249) (hts _ k_32) hsa (fun w hw => (xat_52 w hw).elim (fun z => hts w z) (fun z => va_Nw.use (xT9_on w z) (hXT w z))) (xgd_52_48) hXU hXN hS (hl.1.trans hml.symm) d_C_seal_7 d_C_seal_10 d_C_seal_11 d_C_seal_13 d_C_seal_16 (fun x h => (hnt x h).elim) (by decide) (by decide) (by decide) (by decide) hlocks (fun t _ hz hq => ⟨(), trivial, ⟨Or.inl ⟨by rw [he], rfl⟩, hP.kept (fun k q hk => hq _ (vx_lt hP hk))⟩, hz, fun q h1 _ => hq q h1⟩) hS.2.2 (by decide) (by decide)
set_option maxHeartbeats 4000000 in
set_option maxRecDepth 100000 in
theorem c_C_release (l : Launch) (D : va_G) (cI cT cH : ClassId) (ad : Nat → Nat) (st : St) (p1 : Int32) (hl0 : l.stackTraces = false) (hI : ∀ i j, i < 27 → j < 27 → ad i = ad j → i = j) : vx_Met l y_C_release w_C_release { frames := 7, cells := 1, slots := 6, locals := 100 } (va_Pc [.ref (ad 0), .int p1] (xW D cI cT cH (cw cI cT cH ad st) (inA ad 27))) (qXI D (f_C_release st p1) (fun z => cw cI cT cH ad z) (inA ad 27)) (qX D (f_C_release st p1) (cw cI cT cH ad st) (inA ad 27)) 1 6 (inA ad 27) := by
  refine vx_ofW (cc := b_C_release) (maxL := 2) (ret := (some .int)) (by decide +kernel) rfl ?_
  intro p e s m args below meth c s₁ B hml hnt hv
  obtain ⟨rfl, ⟨hP, hK, hN⟩, hXU, hXN, hXR, hXT⟩ := hv
  have hx := B.exec
  have hb := B.bytes
  have hr := B.returns
  have hlocks := B.notSynchronized
  have hts0 := atoms_spec (ws := w_C_release) B.pre
  have hts : ∀ w ∈ TT, w.before [.ref (ad 0), .int p1].toArray s = true := fun w h => hts0 w (List.mem_cons_of_mem _ h)
  have hown : s.vm.findClass R_C = some m.cls := findClass_of_methodNamed B.named
  have hS : va_S (inA ad 27) s.heap s.heap [] := va_S.rf
  have hl := lv_entry ([.ref (ad 0), .int p1]) (n := 2) (Nat.le_of_ble_eq_true rfl)
  rw [lg_entry_eq]
  generalize (lg_sl ([.ref (ad 0), .int p1]) ++ List.replicate (2 - (lg_sl ([.ref (ad 0), .int p1])).length) Slot.unset).toArray = ls at hl ⊢
  have hl : lv_has ls 2 [(0, .ref (ad 0)), (1, .int p1)] := hl
  have he := f_C_release.eq_1 st p1
  refine lv_aload_n hx hb d_C_release_0 rfl (lv_at hl 0 rfl) ?_
  refine va_get (D := D) (ci := 0) (v := .int (st 0 3)) (C := R_C) (T := F_C) (N := 7) hx hb hts in_C hown hK hP 0 cw_0 rfl 3 (by decide) (hts _ k_132) (fun _ h9 => h9) rfl d_C_release_1 ?_
  refine lv_if_eq (tgt := 15) hx hb d_C_release_4 (by decide) (fun hc1 => ?_) (fun hc1 => ?_)
  · have he := he.trans (if_pos hc1)
    obtain ⟨sa, hsa⟩ := hXR (97, "not sealed, or the task is ready") (List.mem_of_getElem? (i := 4) rfl)
    exact vx_throwS (own := R_C) (cls := eS) (text := "not sealed, or the task is ready") (names := xn9) (ik := 48) (is := 97) (ic := 52) (sa := sa) hx hb hl0 hown (by decide) (by decide) (hts _ k_249) (hts _ k_32) hsa (fun w hw => (xat_52 w hw).elim (fun z => hts w z) (fun z => va_Nw.use (xT9_on w z) (hXT w z))) (xgd_52_48) hXU hXN hS (hl.1.trans hml.symm) d_C_release_15 d_C_release_18 d_C_release_19 d_C_release_21 d_C_release_24 (fun x h => (hnt x h).elim) (by decide) (by decide) (by decide) (by decide) hlocks (fun t _ hz hq => ⟨(), trivial, ⟨Or.inl ⟨by rw [he], rfl⟩, hP.kept (fun k q hk => hq _ (vx_lt hP hk))⟩, hz, fun q h1 _ => hq q h1⟩) hS.2.2 (by decide) (by decide)
  · have he := he.trans (if_neg hc1)
    refine lv_aload_n hx hb d_C_release_7 rfl (lv_at hl 0 rfl) ?_
    refine lv_iload_n hx hb d_C_release_8 rfl (lv_at hl 1 rfl) ?_
    refine rdV (As := [.int p1]) (rest := []) (na := 1) (c_C_isReady l D cI cT cH ad st p1 ) ⟨hx, hb, hml, hown, hts⟩ k_174 k_176 k_1 k_24 k_177 (by decide +kernel) (by decide) (by decide) hP hK hN (q0 := 0) (ci := 0) cw_0 rfl rfl hl.1 rfl (Nat.le_of_ble_eq_true rfl) d_C_release_9 ?_
    refine lv_if_eq (tgt := 25) hx hb d_C_release_12 (by decide) (fun hc2 => ?_) (fun hc2 => ?_)
    · have he := he.trans (if_pos hc2)
      refine lv_aload_n hx hb d_C_release_25 rfl (lv_at hl 0 rfl) ?_
      refine lv_iload_n hx hb d_C_release_26 rfl (lv_at hl 1 rfl) ?_
      refine rdV (As := [.int p1]) (rest := []) (na := 1) (c_C_isDeclared l D cI cT cH ad st p1 ) ⟨hx, hb, hml, hown, hts⟩ k_159 k_161 k_0 k_24 k_162 (by decide +kernel) (by decide) (by decide) hP hK hN (q0 := 0) (ci := 0) cw_0 rfl rfl hl.1 rfl (Nat.le_of_ble_eq_true rfl) d_C_release_27 ?_
      refine lv_if_ne (tgt := 43) hx hb d_C_release_30 (by decide) (fun hc3 => ?_) (fun hc3 => ?_)
      · have he := he.trans (if_neg hc3)
        refine lv_aload_n hx hb d_C_release_43 rfl (lv_at hl 0 rfl) ?_
        refine lv_dup hx hb d_C_release_44 rfl ?_
        refine va_get (D := D) (ci := 0) (v := .int (st 0 5)) (C := R_C) (T := F_C) (N := 7) hx hb hts in_C hown hK hP 0 cw_0 rfl 5 (by decide) (hts _ k_134) (fun _ h9 => h9) rfl d_C_release_45 ?_
        refine lv_iconst (v := 1) hx hb d_C_release_48 (by decide) ?_
        refine lv_iadd hx hb d_C_release_49 ?_
        refine va_put (D := D) (ci := 0) (v := .int ((st 0 5) + 1)) (ty := .int) (C := R_C) (T := F_C) (N := 7) hx hb hts in_C ft_C ft_C_ok n_C hown hK hP (cw_D hI) hS 0 cw_0 rfl 5 (by decide) (hts _ k_134) (fun _ h9 => h9) rfl (by decide +kernel) rfl rfl (Nat.le_of_ble_eq_true rfl) d_C_release_50 (fun H locs hP _ hS => ?_)
        rw [cp_0 (k := 5) (by decide)] at hP
        generalize hw5 : wr st 0 5 ((st 0 5) + 1) = sw4 at hP he
        refine W.eq (g2 := F0 m 53 ls []) rfl ?_
        rw [f_C_release_S53] at he
        refine lv_aload_n hx hb d_C_release_53 rfl (lv_at hl 0 rfl) ?_
        refine va_get (D := D) (ci := 0) (v := .ref (ad 1)) (C := R_C) (T := F_C) (N := 7) hx hb hts in_C hown hK hP 0 cw_0 rfl 0 (by decide) (hts _ k_129) (fun _ h9 => h9) rfl d_C_release_54 ?_
        refine lv_iload_n hx hb d_C_release_57 rfl (lv_at hl 1 rfl) ?_
        have hi6 : vp_in p1 8 := (by first | with_reducible assumption | exact vi_isIn7 (by with_reducible assumption) | exact vi_isThing (by with_reducible assumption) | exact vi_decl (by with_reducible assumption) | exact vi_ready (by with_reducible assumption) | exact vi_run (by with_reducible assumption) (by with_reducible assumption) | exact vi_run (by with_reducible assumption) (vi_runner _) | exact vi_mTask (by with_reducible assumption) | exact vi_mThing (by with_reducible assumption) | exact vi_mdecl (by with_reducible assumption) | exact vi_mready (by with_reducible assumption))
        refine va_aldq hx hb hK hP 1 1 cw_1 rfl hi6 d_C_release_58 ?_
        have hj7 : p1.toNatClampNeg < 8 := vi_lt hi6
        refine W.eq (g2 := F0 m 59 ls [.ref (ad (5 + 2 * p1.toNatClampNeg))]) rfl ?_
        refine lv_aload_n hx hb d_C_release_59 rfl (lv_at hl 0 rfl) ?_
        refine va_get (D := D) (ci := 0) (v := .int (sw4 0 5)) (C := R_C) (T := F_C) (N := 7) hx hb hts in_C hown hK hP 0 cw_0 rfl 5 (by decide) (hts _ k_134) (fun _ h9 => h9) rfl d_C_release_60 ?_
        refine wcV (As := [.int (sw4 0 5)]) (rest := []) (na := 1) (c_T_makeReady l D cI cT cH ad sw4 p1.toNatClampNeg (sw4 0 5) hI hj7) ⟨hx, hb, hml, hown, hts⟩ k_369 k_370 k_371 k_26 k_372 (by decide +kernel) (by decide) (by decide) hP hK hN (q0 := (5 + 2 * p1.toNatClampNeg)) (ci := 1) (cw_k hj7) rfl hS rfl hl.1 rfl (Nat.le_of_ble_eq_true rfl) d_C_release_63 (fun H locs hP hS => ?_)
        generalize hw9 : f_T_makeReady sw4 p1.toNatClampNeg (sw4 0 5) = sw8 at hP he
        refine W.eq (g2 := F0 m 66 ls []) rfl ?_
        rw [f_C_release_S66] at he
        refine lv_aload_n hx hb d_C_release_66 rfl (lv_at hl 0 rfl) ?_
        refine lv_iconst (v := 1) hx hb d_C_release_67 (by decide) ?_
        refine lv_iload_n hx hb d_C_release_68 rfl (lv_at hl 1 rfl) ?_
        refine lv_bipush (v := 15) hx hb d_C_release_69 (by decide) ?_
        refine wcV (As := [.int 1, .int p1, .int 15]) (rest := []) (na := 3) (c_C_happened l D cI cT cH ad sw8 1 p1 15 hI) ⟨hx, hb, hml, hown, hts⟩ k_373 k_375 k_8 k_24 k_376 (by decide +kernel) (by decide) (by decide) hP hK hN (q0 := 0) (ci := 0) cw_0 rfl hS rfl hl.1 rfl (Nat.le_of_ble_eq_true rfl) d_C_release_71 (fun H locs hP hS => ?_)
        generalize hw11 : f_C_happened sw8 1 p1 15 = sw10 at hP he
        refine W.eq (g2 := F0 m 74 ls []) rfl ?_
        rw [f_C_release_S74] at he
        refine lv_aload_n hx hb d_C_release_74 rfl (lv_at hl 0 rfl) ?_
        refine va_get (D := D) (ci := 0) (v := .int (sw10 0 5)) (C := R_C) (T := F_C) (N := 7) hx hb hts in_C hown hK hP 0 cw_0 rfl 5 (by decide) (hts _ k_134) (fun _ h9 => h9) rfl d_C_release_75 ?_
        exact vx_ret (W.widen (k := 1) (n := 6) (by decide) (by decide) (W.iret (v := (sw10 0 5)) hx hb hr (fun t ht _ => ⟨⟨(sw10 0 5), (), rfl, ⟨by rw [he], by rw [he]⟩, (by rw [he]; show va_P _ _ _ t.heap; rw [ht]; exact hP)⟩, hS.F ht⟩) hS.2.2 d_C_release_78))
      · have he := he.trans (if_pos hc3)
        obtain ⟨sa, hsa⟩ := hXR (99, "the task is not declared") (List.mem_of_getElem? (i := 5) rfl)
        exact vx_throwS (own := R_C) (cls := eA) (text := "the task is not declared") (names := xn9) (ik := 59) (is := 99) (ic := 63) (sa := sa) hx hb hl0 hown (by decide) (by decide) (hts _ k_316) (hts _ k_33) hsa (fun w hw => (xat_63 w hw).elim (fun z => hts w z) (fun z => va_Nw.use (xT9_on w z) (hXT w z))) (xgd_63_59) hXU hXN hS (hl.1.trans hml.symm) d_C_release_33 d_C_release_36 d_C_release_37 d_C_release_39 d_C_release_42 (fun x h => (hnt x h).elim) (by decide) (by decide) (by decide) (by decide) hlocks (fun t _ hz hq => ⟨(), trivial, ⟨Or.inr ⟨by rw [he], rfl⟩, hP.kept (fun k q hk => hq _ (vx_lt hP hk))⟩, hz, fun q h1 _ => hq q h1⟩) hS.2.2 (by decide) (by decide)
    · have he := he.trans (if_neg hc2)
      obtain ⟨sa, hsa⟩ := hXR (97, "not sealed, or the task is ready") (List.mem_of_getElem? (i := 4) rfl)
      exact vx_throwS (own := R_C) (cls := eS) (text := "not sealed, or the task is ready") (names := xn9) (ik := 48) (is := 97) (ic := 52) (sa := sa) hx hb hl0 hown (by decide) (by decide) (hts _ k_249) (hts _ k_32) hsa (fun w hw => (xat_52 w hw).elim (fun z => hts w z) (fun z => va_Nw.use (xT9_on w z) (hXT w z))) (xgd_52_48) hXU hXN hS (hl.1.trans hml.symm) d_C_release_15 d_C_release_18 d_C_release_19 d_C_release_21 d_C_release_24 (fun x h => (hnt x h).elim) (by decide) (by decide) (by decide) (by decide) hlocks (fun t _ hz hq => ⟨(), trivial, ⟨Or.inl ⟨by rw [he], rfl⟩, hP.kept (fun k q hk => hq _ (vx_lt hP hk))⟩, hz, fun q h1 _ => hq q h1⟩) hS.2.2 (by decide) (by decide)
