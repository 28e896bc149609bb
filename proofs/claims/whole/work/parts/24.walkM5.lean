set_option maxHeartbeats 4000000 in
set_option maxRecDepth 100000 in
theorem c_M_longest (l : Launch) (D : va_G) (cI cT cH : ClassId) (ad : Nat → Nat) (st : St) (p1 : Int32) (hy0 : vp_in p1 8) : Met l y_M_longest w_M_longest { frames := 1, cells := 0, slots := 0, locals := 23 } (va_Pc [.ref (ad 0), .int p1] (gW D cI cT cH (mw cI ad st))) (QcRead (f_M_longest st p1)) 0 0 (fun _ => False) := by
  refine Met.ofW (cc := b_M_longest) (maxL := 5) (ret := (some .int)) (by decide +kernel) rfl ?_
  intro p e s m args below meth c s₁ B hml hv
  obtain ⟨rfl, hP, hK, hN⟩ := hv
  have hx := B.exec
  have hb := B.bytes
  have hr := B.returns
  have hlocks := B.notSynchronized
  have hts0 := atoms_spec (ws := w_M_longest) B.pre
  have hts : ∀ w ∈ TT, w.before [.ref (ad 0), .int p1].toArray s = true := fun w h => hts0 w (List.mem_cons_of_mem _ h)
  have hown : s.vm.findClass R_M = some m.cls := findClass_of_methodNamed B.named
  have hl := lv_entry ([.ref (ad 0), .int p1]) (n := 5) (Nat.le_of_ble_eq_true rfl)
  rw [lg_entry_eq]
  generalize (lg_sl ([.ref (ad 0), .int p1]) ++ List.replicate (5 - (lg_sl ([.ref (ad 0), .int p1])).length) Slot.unset).toArray = ls at hl ⊢
  have hl : lv_has ls 5 [(0, .ref (ad 0)), (1, .int p1)] := hl
  have L4 : ∀ (n i : Nat) (v2 : Int32) (ls : Array Slot), i + n = 48 → lv_has ls 5 [(0, .ref (ad 0)), (1, .int p1), (2, .int v2), (3, .int (nI i))] → f_M_longest st p1 = f_M_longest_L4 n i st p1 v2 → W p l e (headSpec w_M_longest { frames := 1, cells := 0, slots := 0, locals := 23 }).room s m [.ref (ad 0), .int p1].toArray below meth c s.heap [] 0 0 (MQ below (QcRead (f_M_longest st p1)) [.ref (ad 0), .int p1].toArray s 0 0 (fun _ => False)) (F0 m 4 ls []) := by
    intro n
    induction n with
    | zero =>
      intro i v2 ls hcnt hl he
      have hz : i = 48 := by omega
      subst hz
      rw [f_M_longest_L4] at he
      refine lv_iload_n hx hb d_M_longest_4 rfl (lv_at hl 3 rfl) ?_
      refine lv_bipush (v := 48) hx hb d_M_longest_5 (by decide) ?_
      refine lv_icmp_ge (tgt := 93) hx hb d_M_longest_7 (by decide) (fun _ => ?_) (fun h9 => absurd (by decide) h9)
      refine lv_iload_n hx hb d_M_longest_93 rfl (lv_at hl 2 rfl) ?_
      exact W.iret (v := v2) hx hb hr (fun t ht _ => ⟨by rw [he], ht⟩) (fun _ h => nomatch h) d_M_longest_94
    | succ n ih =>
      intro i v2 ls hcnt hl he
      have hi8 : i < 48 := by omega
      rw [f_M_longest_L4] at he
      refine lv_iload_n hx hb d_M_longest_4 rfl (lv_at hl 3 rfl) ?_
      refine lv_bipush (v := 48) hx hb d_M_longest_5 (by decide) ?_
      refine lv_icmp_ge (tgt := 93) hx hb d_M_longest_7 (by decide) (fun h9 => absurd h9 (nlt_48 hi8)) (fun _ => ?_)
      refine lv_aload_n hx hb d_M_longest_10 rfl (lv_at hl 0 rfl) ?_
      refine va_get (D := D) (ci := 4) (v := .ref (ad 1)) (C := R_M) (T := F_M) (N := 18) hx hb hts in_M hown hK hP 0 mw_0 rfl 4 (by decide) (hts _ k_438) (fun _ h9 => h9) rfl d_M_longest_11 ?_
      refine lv_iload_n hx hb d_M_longest_14 rfl (lv_at hl 3 rfl) ?_
      refine lv_bipush (v := 6) hx hb d_M_longest_15 (by decide) ?_
      refine lv_idiv hx hb d_M_longest_17 (by first | with_reducible assumption | exact vi_ne0 (by with_reducible assumption) | exact hy1 _ (by omega) (i32_pos (by with_reducible assumption)) | decide) ?_
      have hi1 : vp_in ((nI i) / 6) 8 := (vi_d6 (by omega))
      refine va_iald hx hb hK hP 1 0 mw_1 rfl hi1 d_M_longest_18 ?_
      refine W.eq (g2 := F0 m 19 ls [.int (st 1 ((nI i) / 6).toNatClampNeg)]) rfl ?_
      refine lv_aload_n hx hb d_M_longest_19 rfl (lv_at hl 0 rfl) ?_
      refine va_get (D := D) (ci := 4) (v := .ref (ad 1)) (C := R_M) (T := F_M) (N := 18) hx hb hts in_M hown hK hP 0 mw_0 rfl 4 (by decide) (hts _ k_438) (fun _ h9 => h9) rfl d_M_longest_20 ?_
      refine lv_iload_n hx hb d_M_longest_23 rfl (lv_at hl 1 rfl) ?_
      have hi2 : vp_in p1 8 := (by first | with_reducible assumption | exact vi_isIn7 (by with_reducible assumption) | exact vi_isThing (by with_reducible assumption) | exact vi_decl (by with_reducible assumption) | exact vi_ready (by with_reducible assumption) | exact vi_run (by with_reducible assumption) (by with_reducible assumption) | exact vi_run (by with_reducible assumption) (vi_runner _) | exact vi_mTask (by with_reducible assumption) | exact vi_mThing (by with_reducible assumption) | exact vi_mdecl (by with_reducible assumption) | exact vi_mready (by with_reducible assumption))
      refine va_iald hx hb hK hP 1 0 mw_1 rfl hi2 d_M_longest_24 ?_
      refine W.eq (g2 := F0 m 25 ls [.int (st 1 p1.toNatClampNeg), .int (st 1 ((nI i) / 6).toNatClampNeg)]) rfl ?_
      refine lv_icmp_ge (tgt := 58) hx hb d_M_longest_25 (by decide) (fun hc3 => ?_) (fun hc3 => ?_)
      · have he := he.trans (if_pos hc3)
        refine lv_iconst (v := 0) hx hb d_M_longest_58 (by decide) ?_
        refine lv_istore hx hb d_M_longest_59 hl (by decide) rfl (fun ls hl => ?_)
        have hl : lv_has ls 5 [(4, .int 0), (0, .ref (ad 0)), (1, .int p1), (2, .int v2), (3, .int (nI i))] := hl
        refine lv_iload hx hb d_M_longest_61 (lv_at hl 0 rfl) ?_
        refine lv_if_eq (tgt := 85) hx hb d_M_longest_63 (by decide) (fun _ => ?_) (fun h9 => absurd (by decide) h9)
        refine lv_iload_n hx hb d_M_longest_85 rfl (lv_at hl 3 rfl) ?_
        refine lv_istore_n hx hb d_M_longest_86 rfl hl (by decide) rfl (fun ls hl => ?_)
        have hl : lv_has ls 5 [(2, .int v2), (4, .int 0), (0, .ref (ad 0)), (1, .int p1), (3, .int (nI i))] := hl
        refine lv_iinc (k := 4) (v := (nI (i + 1))) hx hb d_M_longest_87 hl rfl (by first | rfl | (rw [nI_succ]; rfl)) (by decide) rfl (fun ls hl => ?_)
        have hl : lv_has ls 5 [(3, .int (nI (i + 1))), (2, .int v2), (4, .int 0), (0, .ref (ad 0)), (1, .int p1)] := hl
        refine lv_goto (tgt := 4) hx hb d_M_longest_90 (by decide) ?_
        exact ih (i + 1) v2 ls (by omega) (lv_sub hl [3, 4, 1, 0] rfl) he
      · have he := he.trans (if_neg hc3)
        refine lv_aload_n hx hb d_M_longest_28 rfl (lv_at hl 0 rfl) ?_
        refine va_get (D := D) (ci := 4) (v := .ref (ad 8)) (C := R_M) (T := F_M) (N := 18) hx hb hts in_M hown hK hP 0 mw_0 rfl 11 (by decide) (hts _ k_445) (fun _ h9 => h9) rfl d_M_longest_29 ?_
        refine lv_iload_n hx hb d_M_longest_32 rfl (lv_at hl 3 rfl) ?_
        have hi5 : vp_in (nI i) 48 := (vp_in_nI (by omega) (by decide))
        refine va_iald hx hb hK hP 8 0 mw_8 rfl hi5 d_M_longest_33 ?_
        rw [show (nI i).toNatClampNeg = i from nI_clamp (by omega)]
        refine W.eq (g2 := F0 m 34 ls [.int (st 8 i)]) rfl ?_
        refine lv_if_le (tgt := 58) hx hb d_M_longest_34 (by decide) (fun hc6 => ?_) (fun hc6 => ?_)
        · have he := he.trans (if_pos hc6)
          refine lv_iconst (v := 0) hx hb d_M_longest_58 (by decide) ?_
          refine lv_istore hx hb d_M_longest_59 hl (by decide) rfl (fun ls hl => ?_)
          have hl : lv_has ls 5 [(4, .int 0), (0, .ref (ad 0)), (1, .int p1), (2, .int v2), (3, .int (nI i))] := hl
          refine lv_iload hx hb d_M_longest_61 (lv_at hl 0 rfl) ?_
          refine lv_if_eq (tgt := 85) hx hb d_M_longest_63 (by decide) (fun _ => ?_) (fun h9 => absurd (by decide) h9)
          refine lv_iload_n hx hb d_M_longest_85 rfl (lv_at hl 3 rfl) ?_
          refine lv_istore_n hx hb d_M_longest_86 rfl hl (by decide) rfl (fun ls hl => ?_)
          have hl : lv_has ls 5 [(2, .int v2), (4, .int 0), (0, .ref (ad 0)), (1, .int p1), (3, .int (nI i))] := hl
          refine lv_iinc (k := 4) (v := (nI (i + 1))) hx hb d_M_longest_87 hl rfl (by first | rfl | (rw [nI_succ]; rfl)) (by decide) rfl (fun ls hl => ?_)
          have hl : lv_has ls 5 [(3, .int (nI (i + 1))), (2, .int v2), (4, .int 0), (0, .ref (ad 0)), (1, .int p1)] := hl
          refine lv_goto (tgt := 4) hx hb d_M_longest_90 (by decide) ?_
          exact ih (i + 1) v2 ls (by omega) (lv_sub hl [3, 4, 1, 0] rfl) he
        · have he := he.trans (if_neg hc6)
          refine lv_aload_n hx hb d_M_longest_37 rfl (lv_at hl 0 rfl) ?_
          refine lv_iload_n hx hb d_M_longest_38 rfl (lv_at hl 3 rfl) ?_
          refine lv_bipush (v := 6) hx hb d_M_longest_39 (by decide) ?_
          refine lv_irem hx hb d_M_longest_41 (by first | with_reducible assumption | exact vi_ne0 (by with_reducible assumption) | exact hy1 _ (by omega) (i32_pos (by with_reducible assumption)) | decide) ?_
          refine W.eq (g2 := F0 m 42 ls [.int (irem (nI i) 6), .ref (ad 0)]) rfl ?_
          refine rdV (As := [.int (irem (nI i) 6)]) (rest := []) (na := 1) (c_M_top l D cI cT cH ad st (irem (nI i) 6) (vi_r6 (by omega))) ⟨hx, hb, hml, hown, hts⟩ k_548 k_550 k_19 k_28 k_551 (by decide +kernel) (by decide) (by decide) hP hK hN (q0 := 0) (ci := 4) mw_0 rfl rfl hl.1 rfl (Nat.le_of_ble_eq_true rfl) d_M_longest_42 ?_
          refine lv_aload_n hx hb d_M_longest_45 rfl (lv_at hl 0 rfl) ?_
          refine va_get (D := D) (ci := 4) (v := .ref (ad 1)) (C := R_M) (T := F_M) (N := 18) hx hb hts in_M hown hK hP 0 mw_0 rfl 4 (by decide) (hts _ k_438) (fun _ h9 => h9) rfl d_M_longest_46 ?_
          refine lv_iload_n hx hb d_M_longest_49 rfl (lv_at hl 1 rfl) ?_
          have hi8 : vp_in p1 8 := (by first | with_reducible assumption | exact vi_isIn7 (by with_reducible assumption) | exact vi_isThing (by with_reducible assumption) | exact vi_decl (by with_reducible assumption) | exact vi_ready (by with_reducible assumption) | exact vi_run (by with_reducible assumption) (by with_reducible assumption) | exact vi_run (by with_reducible assumption) (vi_runner _) | exact vi_mTask (by with_reducible assumption) | exact vi_mThing (by with_reducible assumption) | exact vi_mdecl (by with_reducible assumption) | exact vi_mready (by with_reducible assumption))
          refine va_iald hx hb hK hP 1 0 mw_1 rfl hi8 d_M_longest_50 ?_
          refine W.eq (g2 := F0 m 51 ls [.int (st 1 p1.toNatClampNeg), .int (f_M_top st (irem (nI i) 6))]) rfl ?_
          refine lv_icmp_lt (tgt := 58) hx hb d_M_longest_51 (by decide) (fun hc9 => ?_) (fun hc9 => ?_)
          · have he := he.trans (if_pos hc9)
            refine lv_iconst (v := 0) hx hb d_M_longest_58 (by decide) ?_
            refine lv_istore hx hb d_M_longest_59 hl (by decide) rfl (fun ls hl => ?_)
            have hl : lv_has ls 5 [(4, .int 0), (0, .ref (ad 0)), (1, .int p1), (2, .int v2), (3, .int (nI i))] := hl
            refine lv_iload hx hb d_M_longest_61 (lv_at hl 0 rfl) ?_
            refine lv_if_eq (tgt := 85) hx hb d_M_longest_63 (by decide) (fun _ => ?_) (fun h9 => absurd (by decide) h9)
            refine lv_iload_n hx hb d_M_longest_85 rfl (lv_at hl 3 rfl) ?_
            refine lv_istore_n hx hb d_M_longest_86 rfl hl (by decide) rfl (fun ls hl => ?_)
            have hl : lv_has ls 5 [(2, .int v2), (4, .int 0), (0, .ref (ad 0)), (1, .int p1), (3, .int (nI i))] := hl
            refine lv_iinc (k := 4) (v := (nI (i + 1))) hx hb d_M_longest_87 hl rfl (by first | rfl | (rw [nI_succ]; rfl)) (by decide) rfl (fun ls hl => ?_)
            have hl : lv_has ls 5 [(3, .int (nI (i + 1))), (2, .int v2), (4, .int 0), (0, .ref (ad 0)), (1, .int p1)] := hl
            refine lv_goto (tgt := 4) hx hb d_M_longest_90 (by decide) ?_
            exact ih (i + 1) v2 ls (by omega) (lv_sub hl [3, 4, 1, 0] rfl) he
          · have he := he.trans (if_neg hc9)
            refine lv_iconst (v := 1) hx hb d_M_longest_54 (by decide) ?_
            refine lv_goto (tgt := 59) hx hb d_M_longest_55 (by decide) ?_
            refine lv_istore hx hb d_M_longest_59 hl (by decide) rfl (fun ls hl => ?_)
            have hl : lv_has ls 5 [(4, .int 1), (0, .ref (ad 0)), (1, .int p1), (2, .int v2), (3, .int (nI i))] := hl
            refine lv_iload hx hb d_M_longest_61 (lv_at hl 0 rfl) ?_
            refine lv_if_eq (tgt := 85) hx hb d_M_longest_63 (by decide) (fun h9 => absurd h9 (by decide)) (fun _ => ?_)
            refine lv_aload_n hx hb d_M_longest_66 rfl (lv_at hl 1 rfl) ?_
            refine va_get (D := D) (ci := 4) (v := .ref (ad 8)) (C := R_M) (T := F_M) (N := 18) hx hb hts in_M hown hK hP 0 mw_0 rfl 11 (by decide) (hts _ k_445) (fun _ h9 => h9) rfl d_M_longest_67 ?_
            refine lv_iload_n hx hb d_M_longest_70 rfl (lv_at hl 4 rfl) ?_
            have hi12 : vp_in (nI i) 48 := (vp_in_nI (by omega) (by decide))
            refine va_iald hx hb hK hP 8 0 mw_8 rfl hi12 d_M_longest_71 ?_
            rw [show (nI i).toNatClampNeg = i from nI_clamp (by omega)]
            refine W.eq (g2 := F0 m 72 ls [.int (st 8 i)]) rfl ?_
            refine lv_iload_n hx hb d_M_longest_72 rfl (lv_at hl 3 rfl) ?_
            refine lv_icmp_le (tgt := 85) hx hb d_M_longest_73 (by decide) (fun hc13 => ?_) (fun hc13 => ?_)
            · have he := he.trans (if_pos hc13)
              refine lv_iload_n hx hb d_M_longest_85 rfl (lv_at hl 3 rfl) ?_
              refine lv_istore_n hx hb d_M_longest_86 rfl hl (by decide) rfl (fun ls hl => ?_)
              have hl : lv_has ls 5 [(2, .int v2), (4, .int 1), (0, .ref (ad 0)), (1, .int p1), (3, .int (nI i))] := hl
              refine lv_iinc (k := 4) (v := (nI (i + 1))) hx hb d_M_longest_87 hl rfl (by first | rfl | (rw [nI_succ]; rfl)) (by decide) rfl (fun ls hl => ?_)
              have hl : lv_has ls 5 [(3, .int (nI (i + 1))), (2, .int v2), (4, .int 1), (0, .ref (ad 0)), (1, .int p1)] := hl
              refine lv_goto (tgt := 4) hx hb d_M_longest_90 (by decide) ?_
              exact ih (i + 1) v2 ls (by omega) (lv_sub hl [3, 4, 1, 0] rfl) he
            · have he := he.trans (if_neg hc13)
              refine lv_aload_n hx hb d_M_longest_76 rfl (lv_at hl 1 rfl) ?_
              refine va_get (D := D) (ci := 4) (v := .ref (ad 8)) (C := R_M) (T := F_M) (N := 18) hx hb hts in_M hown hK hP 0 mw_0 rfl 11 (by decide) (hts _ k_445) (fun _ h9 => h9) rfl d_M_longest_77 ?_
              refine lv_iload_n hx hb d_M_longest_80 rfl (lv_at hl 4 rfl) ?_
              have hi14 : vp_in (nI i) 48 := (vp_in_nI (by omega) (by decide))
              refine va_iald hx hb hK hP 8 0 mw_8 rfl hi14 d_M_longest_81 ?_
              rw [show (nI i).toNatClampNeg = i from nI_clamp (by omega)]
              refine W.eq (g2 := F0 m 82 ls [.int (st 8 i)]) rfl ?_
              refine lv_goto (tgt := 86) hx hb d_M_longest_82 (by decide) ?_
              refine lv_istore_n hx hb d_M_longest_86 rfl hl (by decide) rfl (fun ls hl => ?_)
              have hl : lv_has ls 5 [(2, .int (st 8 i)), (4, .int 1), (0, .ref (ad 0)), (1, .int p1), (3, .int (nI i))] := hl
              refine lv_iinc (k := 4) (v := (nI (i + 1))) hx hb d_M_longest_87 hl rfl (by first | rfl | (rw [nI_succ]; rfl)) (by decide) rfl (fun ls hl => ?_)
              have hl : lv_has ls 5 [(3, .int (nI (i + 1))), (2, .int (st 8 i)), (4, .int 1), (0, .ref (ad 0)), (1, .int p1)] := hl
              refine lv_goto (tgt := 4) hx hb d_M_longest_90 (by decide) ?_
              exact ih (i + 1) (st 8 i) ls (by omega) (lv_sub hl [3, 4, 1, 0] rfl) he
  have he := f_M_longest.eq_1 st p1
  refine lv_iconst (v := 0) hx hb d_M_longest_0 (by decide) ?_
  refine lv_istore_n hx hb d_M_longest_1 rfl hl (by decide) rfl (fun ls hl => ?_)
  have hl : lv_has ls 5 [(2, .int 0), (0, .ref (ad 0)), (1, .int p1)] := hl
  refine lv_iconst (v := 0) hx hb d_M_longest_2 (by decide) ?_
  refine lv_istore_n hx hb d_M_longest_3 rfl hl (by decide) rfl (fun ls hl => ?_)
  have hl : lv_has ls 5 [(3, .int 0), (2, .int 0), (0, .ref (ad 0)), (1, .int p1)] := hl
  exact L4 48 0 0 ls (by first | decide | omega) (lv_sub hl [2, 3, 1, 0] rfl) he
set_option maxHeartbeats 4000000 in
set_option maxRecDepth 100000 in
theorem c_M_blocking (l : Launch) (D : va_G) (cI cT cH : ClassId) (ad : Nat → Nat) (st : St) (p1 : Int32) (hI : ∀ i j, i < 13 → j < 13 → ad i = ad j → i = j) : Met l y_M_blocking w_M_blocking { frames := 2, cells := 0, slots := 0, locals := 47 } (va_Pc [.ref (ad 0), .int p1] (gW D cI cT cH (mw cI ad st))) (qI D (f_M_blocking st p1).1 (mw cI ad ((f_M_blocking st p1).2)) (inA ad 13)) 0 0 (inA ad 13) := by
  refine Met.ofW (cc := b_M_blocking) (maxL := 2) (ret := (some .int)) (by decide +kernel) rfl ?_
  intro p e s m args below meth c s₁ B hml hv
  obtain ⟨rfl, hP, hK, hN⟩ := hv
  have hx := B.exec
  have hb := B.bytes
  have hr := B.returns
  have hlocks := B.notSynchronized
  have hts0 := atoms_spec (ws := w_M_blocking) B.pre
  have hts : ∀ w ∈ TT, w.before [.ref (ad 0), .int p1].toArray s = true := fun w h => hts0 w (List.mem_cons_of_mem _ h)
  have hown : s.vm.findClass R_M = some m.cls := findClass_of_methodNamed B.named
  have hS : va_S (inA ad 13) s.heap s.heap [] := va_S.rf
  have hl := lv_entry ([.ref (ad 0), .int p1]) (n := 2) (Nat.le_of_ble_eq_true rfl)
  rw [lg_entry_eq]
  generalize (lg_sl ([.ref (ad 0), .int p1]) ++ List.replicate (2 - (lg_sl ([.ref (ad 0), .int p1])).length) Slot.unset).toArray = ls at hl ⊢
  have hl : lv_has ls 2 [(0, .ref (ad 0)), (1, .int p1)] := hl
  have he := f_M_blocking.eq_1 st p1
  refine lv_aload_n hx hb d_M_blocking_0 rfl (lv_at hl 0 rfl) ?_
  refine lv_iconst (v := 0) hx hb d_M_blocking_1 (by decide) ?_
  refine va_put (D := D) (ci := 4) (v := .int 0) (ty := .int) (C := R_M) (T := F_M) (N := 18) hx hb hts in_M ft_M ft_M_ok n_M hown hK hP (mw_D hI) hS 0 mw_0 rfl 0 (by decide) (hts _ k_434) (fun _ h9 => h9) rfl (by decide +kernel) rfl rfl (Nat.le_of_ble_eq_true rfl) d_M_blocking_2 (fun H locs hP _ hS => ?_)
  rw [mp_0 (k := 0) (by decide)] at hP
  generalize hw2 : wr st 0 0 0 = sw1 at hP he
  refine W.eq (g2 := F0 m 5 ls []) rfl ?_
  rw [f_M_blocking_S5] at he
  refine lv_aload_n hx hb d_M_blocking_5 rfl (lv_at hl 0 rfl) ?_
  refine va_get (D := D) (ci := 4) (v := .int (sw1 0 1)) (C := R_M) (T := F_M) (N := 18) hx hb hts in_M hown hK hP 0 mw_0 rfl 1 (by decide) (hts _ k_435) (fun _ h9 => h9) rfl d_M_blocking_6 ?_
  refine lv_if_eq (tgt := 28) hx hb d_M_blocking_9 (by decide) (fun hc3 => ?_) (fun hc3 => ?_)
  · have he := he.trans (if_pos hc3)
    refine lv_iconst (v := (-1)) hx hb d_M_blocking_28 (by decide) ?_
    exact W.iret (v := (-1)) hx hb hr (fun t ht _ => ⟨⟨(-1), (), rfl, by rw [he], (by rw [he]; show va_P _ _ _ t.heap; rw [ht]; exact hP)⟩, hS.F ht⟩) hS.2.2 d_M_blocking_29
  · have he := he.trans (if_neg hc3)
    refine lv_aload_n hx hb d_M_blocking_12 rfl (lv_at hl 0 rfl) ?_
    refine lv_iload_n hx hb d_M_blocking_13 rfl (lv_at hl 1 rfl) ?_
    refine rdV (As := [.int p1]) (rest := []) (na := 1) (c_M_isDeclared l D cI cT cH ad sw1 p1 ) ⟨hx, hb, hml, hown, hts⟩ k_500 k_502 k_12 k_28 k_503 (by decide +kernel) (by decide) (by decide) hP hK hN (q0 := 0) (ci := 4) mw_0 rfl rfl hl.1 rfl (Nat.le_of_ble_eq_true rfl) d_M_blocking_14 ?_
    refine lv_if_eq (tgt := 28) hx hb d_M_blocking_17 (by decide) (fun hc4 => ?_) (fun hc4 => ?_)
    · have he := he.trans (if_pos hc4)
      refine lv_iconst (v := (-1)) hx hb d_M_blocking_28 (by decide) ?_
      exact W.iret (v := (-1)) hx hb hr (fun t ht _ => ⟨⟨(-1), (), rfl, by rw [he], (by rw [he]; show va_P _ _ _ t.heap; rw [ht]; exact hP)⟩, hS.F ht⟩) hS.2.2 d_M_blocking_29
    · have he := he.trans (if_neg hc4)
      refine lv_aload_n hx hb d_M_blocking_20 rfl (lv_at hl 0 rfl) ?_
      refine lv_iload_n hx hb d_M_blocking_21 rfl (lv_at hl 1 rfl) ?_
      refine rdV (As := [.int p1]) (rest := []) (na := 1) (c_M_longest l D cI cT cH ad sw1 p1 (by first | with_reducible assumption | exact vi_isIn7 (by with_reducible assumption) | exact vi_isThing (by with_reducible assumption) | exact vi_decl (by with_reducible assumption) | exact vi_ready (by with_reducible assumption) | exact vi_run (by with_reducible assumption) (by with_reducible assumption) | exact vi_run (by with_reducible assumption) (vi_runner _) | exact vi_mTask (by with_reducible assumption) | exact vi_mThing (by with_reducible assumption) | exact vi_mdecl (by with_reducible assumption) | exact vi_mready (by with_reducible assumption))) ⟨hx, hb, hml, hown, hts⟩ k_596 k_598 k_21 k_28 k_599 (by decide +kernel) (by decide) (by decide) hP hK hN (q0 := 0) (ci := 4) mw_0 rfl rfl hl.1 rfl (Nat.le_of_ble_eq_true rfl) d_M_blocking_22 ?_
      refine lv_goto (tgt := 29) hx hb d_M_blocking_25 (by decide) ?_
      exact W.iret (v := (f_M_longest sw1 p1)) hx hb hr (fun t ht _ => ⟨⟨(f_M_longest sw1 p1), (), rfl, by rw [he], (by rw [he]; show va_P _ _ _ t.heap; rw [ht]; exact hP)⟩, hS.F ht⟩) hS.2.2 d_M_blocking_29
set_option maxHeartbeats 4000000 in
set_option maxRecDepth 100000 in
theorem c_M_load (l : Launch) (D : va_G) (cI cT cH : ClassId) (ad : Nat → Nat) (st : St) (p1 : Int32) (p2 : Int32) (hy0 : vp_in p1 8) (hy1 : ∀ t, t < 8 → 0 < st 1 t → ¬ st 3 t = 0) : Met l y_M_load w_M_load { frames := 2, cells := 0, slots := 0, locals := 47 } (va_Pc [.ref (ad 0), .int p1, .int p2] (gW D cI cT cH (mw cI ad st))) (QcRead (f_M_load st p1 p2)) 0 0 (fun _ => False) := by
  refine Met.ofW (cc := b_M_load) (maxL := 6) (ret := (some .int)) (by decide +kernel) rfl ?_
  intro p e s m args below meth c s₁ B hml hv
  obtain ⟨rfl, hP, hK, hN⟩ := hv
  have hx := B.exec
  have hb := B.bytes
  have hr := B.returns
  have hlocks := B.notSynchronized
  have hts0 := atoms_spec (ws := w_M_load) B.pre
  have hts : ∀ w ∈ TT, w.before [.ref (ad 0), .int p1, .int p2].toArray s = true := fun w h => hts0 w (List.mem_cons_of_mem _ h)
  have hown : s.vm.findClass R_M = some m.cls := findClass_of_methodNamed B.named
  have hl := lv_entry ([.ref (ad 0), .int p1, .int p2]) (n := 6) (Nat.le_of_ble_eq_true rfl)
  rw [lg_entry_eq]
  generalize (lg_sl ([.ref (ad 0), .int p1, .int p2]) ++ List.replicate (6 - (lg_sl ([.ref (ad 0), .int p1, .int p2])).length) Slot.unset).toArray = ls at hl ⊢
  have hl : lv_has ls 6 [(0, .ref (ad 0)), (1, .int p1), (2, .int p2)] := hl
  have L16 : ∀ (n i : Nat) (v3 : Int32) (ls : Array Slot), i + n = 8 → lv_has ls 6 [(0, .ref (ad 0)), (1, .int p1), (2, .int p2), (3, .int v3), (4, .int (nI i))] → f_M_load st p1 p2 = f_M_load_L16 n i st p1 p2 v3 → W p l e (headSpec w_M_load { frames := 2, cells := 0, slots := 0, locals := 47 }).room s m [.ref (ad 0), .int p1, .int p2].toArray below meth c s.heap [] 0 0 (MQ below (QcRead (f_M_load st p1 p2)) [.ref (ad 0), .int p1, .int p2].toArray s 0 0 (fun _ => False)) (F0 m 16 ls []) := by
    intro n
    induction n with
    | zero =>
      intro i v3 ls hcnt hl he
      have hz : i = 8 := by omega
      subst hz
      rw [f_M_load_L16] at he
      refine lv_iload hx hb d_M_load_16 (lv_at hl 4 rfl) ?_
      refine lv_bipush (v := 8) hx hb d_M_load_18 (by decide) ?_
      refine lv_icmp_ge (tgt := 107) hx hb d_M_load_20 (by decide) (fun _ => ?_) (fun h9 => absurd (by decide) h9)
      refine lv_iload_n hx hb d_M_load_107 rfl (lv_at hl 3 rfl) ?_
      exact W.iret (v := v3) hx hb hr (fun t ht _ => ⟨by rw [he], ht⟩) (fun _ h => nomatch h) d_M_load_108
    | succ n ih =>
      intro i v3 ls hcnt hl he
      have hi8 : i < 8 := by omega
      rw [f_M_load_L16] at he
      refine lv_iload hx hb d_M_load_16 (lv_at hl 4 rfl) ?_
      refine lv_bipush (v := 8) hx hb d_M_load_18 (by decide) ?_
      refine lv_icmp_ge (tgt := 107) hx hb d_M_load_20 (by decide) (fun h9 => absurd h9 (nlt_8 hi8)) (fun _ => ?_)
      refine lv_iload hx hb d_M_load_23 (lv_at hl 4 rfl) ?_
      refine lv_iload_n hx hb d_M_load_25 rfl (lv_at hl 1 rfl) ?_
      refine lv_icmp_eq (tgt := 59) hx hb d_M_load_26 (by decide) (fun hc1 => ?_) (fun hc1 => ?_)
      · have he := he.trans (if_pos hc1)
        refine lv_iconst (v := 0) hx hb d_M_load_59 (by decide) ?_
        refine lv_istore hx hb d_M_load_60 hl (by decide) rfl (fun ls hl => ?_)
        have hl : lv_has ls 6 [(5, .int 0), (0, .ref (ad 0)), (1, .int p1), (2, .int p2), (3, .int v3), (4, .int (nI i))] := hl
        refine lv_iload_n hx hb d_M_load_62 rfl (lv_at hl 4 rfl) ?_
        refine lv_iload hx hb d_M_load_63 (lv_at hl 0 rfl) ?_
        refine lv_if_eq (tgt := 98) hx hb d_M_load_65 (by decide) (fun _ => ?_) (fun h9 => absurd (by decide) h9)
        refine lv_iconst (v := 0) hx hb d_M_load_98 (by decide) ?_
        refine lv_iadd hx hb d_M_load_99 ?_
        refine lv_istore_n hx hb d_M_load_100 rfl hl (by decide) rfl (fun ls hl => ?_)
        have hl : lv_has ls 6 [(3, .int (v3 + 0)), (5, .int 0), (0, .ref (ad 0)), (1, .int p1), (2, .int p2), (4, .int (nI i))] := hl
        refine lv_iinc (k := 5) (v := (nI (i + 1))) hx hb d_M_load_101 hl rfl (by first | rfl | (rw [nI_succ]; rfl)) (by decide) rfl (fun ls hl => ?_)
        have hl : lv_has ls 6 [(4, .int (nI (i + 1))), (3, .int (v3 + 0)), (5, .int 0), (0, .ref (ad 0)), (1, .int p1), (2, .int p2)] := hl
        refine lv_goto (tgt := 16) hx hb d_M_load_104 (by decide) ?_
        exact ih (i + 1) (v3 + 0) ls (by omega) (lv_sub hl [3, 4, 5, 1, 0] rfl) he
      · have he := he.trans (if_neg hc1)
        refine lv_aload_n hx hb d_M_load_29 rfl (lv_at hl 0 rfl) ?_
        refine va_get (D := D) (ci := 4) (v := .ref (ad 1)) (C := R_M) (T := F_M) (N := 18) hx hb hts in_M hown hK hP 0 mw_0 rfl 4 (by decide) (hts _ k_438) (fun _ h9 => h9) rfl d_M_load_30 ?_
        refine lv_iload hx hb d_M_load_33 (lv_at hl 4 rfl) ?_
        have hi3 : vp_in (nI i) 8 := (vp_in_nI (by omega) (by decide))
        refine va_iald hx hb hK hP 1 0 mw_1 rfl hi3 d_M_load_35 ?_
        rw [show (nI i).toNatClampNeg = i from nI_clamp (by omega)]
        refine W.eq (g2 := F0 m 36 ls [.int (st 1 i)]) rfl ?_
        refine lv_if_le (tgt := 59) hx hb d_M_load_36 (by decide) (fun hc4 => ?_) (fun hc4 => ?_)
        · have he := he.trans (if_pos hc4)
          refine lv_iconst (v := 0) hx hb d_M_load_59 (by decide) ?_
          refine lv_istore hx hb d_M_load_60 hl (by decide) rfl (fun ls hl => ?_)
          have hl : lv_has ls 6 [(5, .int 0), (0, .ref (ad 0)), (1, .int p1), (2, .int p2), (3, .int v3), (4, .int (nI i))] := hl
          refine lv_iload_n hx hb d_M_load_62 rfl (lv_at hl 4 rfl) ?_
          refine lv_iload hx hb d_M_load_63 (lv_at hl 0 rfl) ?_
          refine lv_if_eq (tgt := 98) hx hb d_M_load_65 (by decide) (fun _ => ?_) (fun h9 => absurd (by decide) h9)
          refine lv_iconst (v := 0) hx hb d_M_load_98 (by decide) ?_
          refine lv_iadd hx hb d_M_load_99 ?_
          refine lv_istore_n hx hb d_M_load_100 rfl hl (by decide) rfl (fun ls hl => ?_)
          have hl : lv_has ls 6 [(3, .int (v3 + 0)), (5, .int 0), (0, .ref (ad 0)), (1, .int p1), (2, .int p2), (4, .int (nI i))] := hl
          refine lv_iinc (k := 5) (v := (nI (i + 1))) hx hb d_M_load_101 hl rfl (by first | rfl | (rw [nI_succ]; rfl)) (by decide) rfl (fun ls hl => ?_)
          have hl : lv_has ls 6 [(4, .int (nI (i + 1))), (3, .int (v3 + 0)), (5, .int 0), (0, .ref (ad 0)), (1, .int p1), (2, .int p2)] := hl
          refine lv_goto (tgt := 16) hx hb d_M_load_104 (by decide) ?_
          exact ih (i + 1) (v3 + 0) ls (by omega) (lv_sub hl [3, 4, 5, 1, 0] rfl) he
        · have he := he.trans (if_neg hc4)
          refine lv_aload_n hx hb d_M_load_39 rfl (lv_at hl 0 rfl) ?_
          refine va_get (D := D) (ci := 4) (v := .ref (ad 1)) (C := R_M) (T := F_M) (N := 18) hx hb hts in_M hown hK hP 0 mw_0 rfl 4 (by decide) (hts _ k_438) (fun _ h9 => h9) rfl d_M_load_40 ?_
          refine lv_iload hx hb d_M_load_43 (lv_at hl 4 rfl) ?_
          have hi6 : vp_in (nI i) 8 := (vp_in_nI (by omega) (by decide))
          refine va_iald hx hb hK hP 1 0 mw_1 rfl hi6 d_M_load_45 ?_
          rw [show (nI i).toNatClampNeg = i from nI_clamp (by omega)]
          refine W.eq (g2 := F0 m 46 ls [.int (st 1 i)]) rfl ?_
          refine lv_aload_n hx hb d_M_load_46 rfl (lv_at hl 0 rfl) ?_
          refine va_get (D := D) (ci := 4) (v := .ref (ad 1)) (C := R_M) (T := F_M) (N := 18) hx hb hts in_M hown hK hP 0 mw_0 rfl 4 (by decide) (hts _ k_438) (fun _ h9 => h9) rfl d_M_load_47 ?_
          refine lv_iload_n hx hb d_M_load_50 rfl (lv_at hl 1 rfl) ?_
          have hi7 : vp_in p1 8 := (by first | with_reducible assumption | exact vi_isIn7 (by with_reducible assumption) | exact vi_isThing (by with_reducible assumption) | exact vi_decl (by with_reducible assumption) | exact vi_ready (by with_reducible assumption) | exact vi_run (by with_reducible assumption) (by with_reducible assumption) | exact vi_run (by with_reducible assumption) (vi_runner _) | exact vi_mTask (by with_reducible assumption) | exact vi_mThing (by with_reducible assumption) | exact vi_mdecl (by with_reducible assumption) | exact vi_mready (by with_reducible assumption))
          refine va_iald hx hb hK hP 1 0 mw_1 rfl hi7 d_M_load_51 ?_
          refine W.eq (g2 := F0 m 52 ls [.int (st 1 p1.toNatClampNeg), .int (st 1 i)]) rfl ?_
          refine lv_icmp_lt (tgt := 59) hx hb d_M_load_52 (by decide) (fun hc8 => ?_) (fun hc8 => ?_)
          · have he := he.trans (if_pos hc8)
            refine lv_iconst (v := 0) hx hb d_M_load_59 (by decide) ?_
            refine lv_istore hx hb d_M_load_60 hl (by decide) rfl (fun ls hl => ?_)
            have hl : lv_has ls 6 [(5, .int 0), (0, .ref (ad 0)), (1, .int p1), (2, .int p2), (3, .int v3), (4, .int (nI i))] := hl
            refine lv_iload_n hx hb d_M_load_62 rfl (lv_at hl 4 rfl) ?_
            refine lv_iload hx hb d_M_load_63 (lv_at hl 0 rfl) ?_
            refine lv_if_eq (tgt := 98) hx hb d_M_load_65 (by decide) (fun _ => ?_) (fun h9 => absurd (by decide) h9)
            refine lv_iconst (v := 0) hx hb d_M_load_98 (by decide) ?_
            refine lv_iadd hx hb d_M_load_99 ?_
            refine lv_istore_n hx hb d_M_load_100 rfl hl (by decide) rfl (fun ls hl => ?_)
            have hl : lv_has ls 6 [(3, .int (v3 + 0)), (5, .int 0), (0, .ref (ad 0)), (1, .int p1), (2, .int p2), (4, .int (nI i))] := hl
            refine lv_iinc (k := 5) (v := (nI (i + 1))) hx hb d_M_load_101 hl rfl (by first | rfl | (rw [nI_succ]; rfl)) (by decide) rfl (fun ls hl => ?_)
            have hl : lv_has ls 6 [(4, .int (nI (i + 1))), (3, .int (v3 + 0)), (5, .int 0), (0, .ref (ad 0)), (1, .int p1), (2, .int p2)] := hl
            refine lv_goto (tgt := 16) hx hb d_M_load_104 (by decide) ?_
            exact ih (i + 1) (v3 + 0) ls (by omega) (lv_sub hl [3, 4, 5, 1, 0] rfl) he
          · have he := he.trans (if_neg hc8)
            refine lv_iconst (v := 1) hx hb d_M_load_55 (by decide) ?_
            refine lv_goto (tgt := 60) hx hb d_M_load_56 (by decide) ?_
            refine lv_istore hx hb d_M_load_60 hl (by decide) rfl (fun ls hl => ?_)
            have hl : lv_has ls 6 [(5, .int 1), (0, .ref (ad 0)), (1, .int p1), (2, .int p2), (3, .int v3), (4, .int (nI i))] := hl
            refine lv_iload_n hx hb d_M_load_62 rfl (lv_at hl 4 rfl) ?_
            refine lv_iload hx hb d_M_load_63 (lv_at hl 0 rfl) ?_
            refine lv_if_eq (tgt := 98) hx hb d_M_load_65 (by decide) (fun h9 => absurd h9 (by decide)) (fun _ => ?_)
            refine lv_iload_n hx hb d_M_load_68 rfl (lv_at hl 3 rfl) ?_
            refine lv_aload_n hx hb d_M_load_69 rfl (lv_at hl 1 rfl) ?_
            refine va_get (D := D) (ci := 4) (v := .ref (ad 3)) (C := R_M) (T := F_M) (N := 18) hx hb hts in_M hown hK hP 0 mw_0 rfl 6 (by decide) (hts _ k_440) (fun _ h9 => h9) rfl d_M_load_70 ?_
            refine lv_iload hx hb d_M_load_73 (lv_at hl 5 rfl) ?_
            have hi11 : vp_in (nI i) 8 := (vp_in_nI (by omega) (by decide))
            refine va_iald hx hb hK hP 3 0 mw_3 rfl hi11 d_M_load_75 ?_
            rw [show (nI i).toNatClampNeg = i from nI_clamp (by omega)]
            refine W.eq (g2 := F0 m 76 ls [.int (st 3 i), .int p2, .int v3]) rfl ?_
            refine lv_iadd hx hb d_M_load_76 ?_
            refine lv_iconst (v := 1) hx hb d_M_load_77 (by decide) ?_
            refine lv_isub hx hb d_M_load_78 ?_
            refine lv_aload_n hx hb d_M_load_79 rfl (lv_at hl 1 rfl) ?_
            refine va_get (D := D) (ci := 4) (v := .ref (ad 3)) (C := R_M) (T := F_M) (N := 18) hx hb hts in_M hown hK hP 0 mw_0 rfl 6 (by decide) (hts _ k_440) (fun _ h9 => h9) rfl d_M_load_80 ?_
            refine lv_iload hx hb d_M_load_83 (lv_at hl 5 rfl) ?_
            have hi12 : vp_in (nI i) 8 := (vp_in_nI (by omega) (by decide))
            refine va_iald hx hb hK hP 3 0 mw_3 rfl hi12 d_M_load_85 ?_
            rw [show (nI i).toNatClampNeg = i from nI_clamp (by omega)]
            refine W.eq (g2 := F0 m 86 ls [.int (st 3 i), .int ((p2 + (st 3 i)) - 1), .int v3]) rfl ?_
            refine lv_idiv hx hb d_M_load_86 (by first | with_reducible assumption | exact vi_ne0 (by with_reducible assumption) | exact hy1 _ (by omega) (i32_pos (by with_reducible assumption)) | decide) ?_
            refine lv_aload_n hx hb d_M_load_87 rfl (lv_at hl 1 rfl) ?_
            refine va_get (D := D) (ci := 4) (v := .ref (ad 2)) (C := R_M) (T := F_M) (N := 18) hx hb hts in_M hown hK hP 0 mw_0 rfl 5 (by decide) (hts _ k_439) (fun _ h9 => h9) rfl d_M_load_88 ?_
            refine lv_iload hx hb d_M_load_91 (lv_at hl 5 rfl) ?_
            have hi13 : vp_in (nI i) 8 := (vp_in_nI (by omega) (by decide))
            refine va_iald hx hb hK hP 2 0 mw_2 rfl hi13 d_M_load_93 ?_
            rw [show (nI i).toNatClampNeg = i from nI_clamp (by omega)]
            refine W.eq (g2 := F0 m 94 ls [.int (st 2 i), .int (((p2 + (st 3 i)) - 1) / (st 3 i)), .int v3]) rfl ?_
            refine lv_imul hx hb d_M_load_94 ?_
            refine lv_goto (tgt := 99) hx hb d_M_load_95 (by decide) ?_
            refine lv_iadd hx hb d_M_load_99 ?_
            refine lv_istore_n hx hb d_M_load_100 rfl hl (by decide) rfl (fun ls hl => ?_)
            have hl : lv_has ls 6 [(3, .int (v3 + ((((p2 + (st 3 i)) - 1) / (st 3 i)) * (st 2 i)))), (5, .int 1), (0, .ref (ad 0)), (1, .int p1), (2, .int p2), (4, .int (nI i))] := hl
            refine lv_iinc (k := 5) (v := (nI (i + 1))) hx hb d_M_load_101 hl rfl (by first | rfl | (rw [nI_succ]; rfl)) (by decide) rfl (fun ls hl => ?_)
            have hl : lv_has ls 6 [(4, .int (nI (i + 1))), (3, .int (v3 + ((((p2 + (st 3 i)) - 1) / (st 3 i)) * (st 2 i)))), (5, .int 1), (0, .ref (ad 0)), (1, .int p1), (2, .int p2)] := hl
            refine lv_goto (tgt := 16) hx hb d_M_load_104 (by decide) ?_
            exact ih (i + 1) (v3 + ((((p2 + (st 3 i)) - 1) / (st 3 i)) * (st 2 i))) ls (by omega) (lv_sub hl [3, 4, 5, 1, 0] rfl) he
  have he := f_M_load.eq_1 st p1 p2
  refine lv_aload_n hx hb d_M_load_0 rfl (lv_at hl 0 rfl) ?_
  refine va_get (D := D) (ci := 4) (v := .ref (ad 2)) (C := R_M) (T := F_M) (N := 18) hx hb hts in_M hown hK hP 0 mw_0 rfl 5 (by decide) (hts _ k_439) (fun _ h9 => h9) rfl d_M_load_1 ?_
  refine lv_iload_n hx hb d_M_load_4 rfl (lv_at hl 1 rfl) ?_
  have hi14 : vp_in p1 8 := (by first | with_reducible assumption | exact vi_isIn7 (by with_reducible assumption) | exact vi_isThing (by with_reducible assumption) | exact vi_decl (by with_reducible assumption) | exact vi_ready (by with_reducible assumption) | exact vi_run (by with_reducible assumption) (by with_reducible assumption) | exact vi_run (by with_reducible assumption) (vi_runner _) | exact vi_mTask (by with_reducible assumption) | exact vi_mThing (by with_reducible assumption) | exact vi_mdecl (by with_reducible assumption) | exact vi_mready (by with_reducible assumption))
  refine va_iald hx hb hK hP 2 0 mw_2 rfl hi14 d_M_load_5 ?_
  refine W.eq (g2 := F0 m 6 ls [.int (st 2 p1.toNatClampNeg)]) rfl ?_
  refine lv_aload_n hx hb d_M_load_6 rfl (lv_at hl 0 rfl) ?_
  refine lv_iload_n hx hb d_M_load_7 rfl (lv_at hl 1 rfl) ?_
  refine rdV (As := [.int p1]) (rest := [.int (st 2 p1.toNatClampNeg)]) (na := 1) (c_M_longest l D cI cT cH ad st p1 (by first | with_reducible assumption | exact vi_isIn7 (by with_reducible assumption) | exact vi_isThing (by with_reducible assumption) | exact vi_decl (by with_reducible assumption) | exact vi_ready (by with_reducible assumption) | exact vi_run (by with_reducible assumption) (by with_reducible assumption) | exact vi_run (by with_reducible assumption) (vi_runner _) | exact vi_mTask (by with_reducible assumption) | exact vi_mThing (by with_reducible assumption) | exact vi_mdecl (by with_reducible assumption) | exact vi_mready (by with_reducible assumption))) ⟨hx, hb, hml, hown, hts⟩ k_596 k_598 k_21 k_28 k_599 (by decide +kernel) (by decide) (by decide) hP hK hN (q0 := 0) (ci := 4) mw_0 rfl rfl hl.1 rfl (Nat.le_of_ble_eq_true rfl) d_M_load_8 ?_
  refine lv_iadd hx hb d_M_load_11 ?_
  refine lv_istore_n hx hb d_M_load_12 rfl hl (by decide) rfl (fun ls hl => ?_)
  have hl : lv_has ls 6 [(3, .int ((st 2 p1.toNatClampNeg) + (f_M_longest st p1))), (0, .ref (ad 0)), (1, .int p1), (2, .int p2)] := hl
  refine lv_iconst (v := 0) hx hb d_M_load_13 (by decide) ?_
  refine lv_istore hx hb d_M_load_14 hl (by decide) rfl (fun ls hl => ?_)
  have hl : lv_has ls 6 [(4, .int 0), (3, .int ((st 2 p1.toNatClampNeg) + (f_M_longest st p1))), (0, .ref (ad 0)), (1, .int p1), (2, .int p2)] := hl
  exact L16 8 0 ((st 2 p1.toNatClampNeg) + (f_M_longest st p1)) ls (by first | decide | omega) (lv_sub hl [2, 3, 4, 1, 0] rfl) he
set_option maxHeartbeats 4000000 in
set_option maxRecDepth 100000 in
theorem c_M_response (l : Launch) (D : va_G) (cI cT cH : ClassId) (ad : Nat → Nat) (st : St) (p1 : Int32) (hI : ∀ i j, i < 13 → j < 13 → ad i = ad j → i = j) (hy0 : ∀ t, t < 8 → 0 < st 1 t → ¬ st 3 t = 0) (hy1 : ∀ t, t < 8 → (st 3 t).toNatClampNeg < 1000) : Met l y_M_response w_M_response { frames := 3, cells := 0, slots := 0, locals := 72 } (va_Pc [.ref (ad 0), .int p1] (gW D cI cT cH (mw cI ad st))) (qI D (f_M_response st p1).1 (mw cI ad ((f_M_response st p1).2)) (inA ad 13)) 0 0 (inA ad 13) := by
  refine Met.ofW (cc := b_M_response) (maxL := 3) (ret := (some .int)) (by decide +kernel) rfl ?_
  intro p e s m args below meth c s₁ B hml hv
  obtain ⟨rfl, hP, hK, hN⟩ := hv
  have hx := B.exec
  have hb := B.bytes
  have hr := B.returns
  have hlocks := B.notSynchronized
  have hts0 := atoms_spec (ws := w_M_response) B.pre
  have hts : ∀ w ∈ TT, w.before [.ref (ad 0), .int p1].toArray s = true := fun w h => hts0 w (List.mem_cons_of_mem _ h)
  have hown : s.vm.findClass R_M = some m.cls := findClass_of_methodNamed B.named
  have hS : va_S (inA ad 13) s.heap s.heap [] := va_S.rf
  have hl := lv_entry ([.ref (ad 0), .int p1]) (n := 3) (Nat.le_of_ble_eq_true rfl)
  rw [lg_entry_eq]
  generalize (lg_sl ([.ref (ad 0), .int p1]) ++ List.replicate (3 - (lg_sl ([.ref (ad 0), .int p1])).length) Slot.unset).toArray = ls at hl ⊢
  have hl : lv_has ls 3 [(0, .ref (ad 0)), (1, .int p1)] := hl
  have L24 : ∀ (n i : Nat) (sl : St) (H : Heap) (locs : List Loc) (ls : Array Slot), i + n = (sl 3 p1.toNatClampNeg).toNatClampNeg + 1 → 1 ≤ i → lv_has ls 3 [(0, .ref (ad 0)), (1, .int p1), (2, .int (nI i))] → va_P D cls9 (mw cI ad sl) H → va_S (inA ad 13) s.heap H locs → (vp_in p1 8) → (∀ t, t < 8 → 0 < sl 1 t → ¬ sl 3 t = 0) → (∀ t, t < 8 → (sl 3 t).toNatClampNeg < 1000) → f_M_response st p1 = f_M_response_L24 n i sl p1 → W p l e (headSpec w_M_response { frames := 3, cells := 0, slots := 0, locals := 72 }).room s m [.ref (ad 0), .int p1].toArray below meth c H locs 0 0 (MQ below (qI D (f_M_response st p1).1 (mw cI ad ((f_M_response st p1).2)) (inA ad 13)) [.ref (ad 0), .int p1].toArray s 0 0 (inA ad 13)) (F0 m 24 ls []) := by
    intro n
    induction n with
    | zero =>
      intro i sl H locs ls hcnt hone hl hP hS g0 g1 g2 he
      rw [f_M_response_L24] at he
      refine lv_iload_n hx hb d_M_response_24 rfl (lv_at hl 2 rfl) ?_
      refine lv_aload_n hx hb d_M_response_25 rfl (lv_at hl 0 rfl) ?_
      refine va_get (D := D) (ci := 4) (v := .ref (ad 3)) (C := R_M) (T := F_M) (N := 18) hx hb hts in_M hown hK hP 0 mw_0 rfl 6 (by decide) (hts _ k_440) (fun _ h9 => h9) rfl d_M_response_26 ?_
      refine lv_iload_n hx hb d_M_response_29 rfl (lv_at hl 1 rfl) ?_
      have hi1 : vp_in p1 8 := (by first | with_reducible assumption | exact vi_isIn7 (by with_reducible assumption) | exact vi_isThing (by with_reducible assumption) | exact vi_decl (by with_reducible assumption) | exact vi_ready (by with_reducible assumption) | exact vi_run (by with_reducible assumption) (by with_reducible assumption) | exact vi_run (by with_reducible assumption) (vi_runner _) | exact vi_mTask (by with_reducible assumption) | exact vi_mThing (by with_reducible assumption) | exact vi_mdecl (by with_reducible assumption) | exact vi_mready (by with_reducible assumption))
      refine va_iald hx hb hK hP 3 0 mw_3 rfl hi1 d_M_response_30 ?_
      refine W.eq (g2 := F0 m 31 ls [.int (sl 3 p1.toNatClampNeg), .int (nI i)]) rfl ?_
      refine lv_icmp_gt (tgt := 52) hx hb d_M_response_31 (by decide) (fun _ => ?_) (fun h9 => absurd (rs_lt hcnt (g2 _ (vi_lt g0))) h9)
      refine lv_iconst (v := (-1)) hx hb d_M_response_52 (by decide) ?_
      exact W.iret (v := (-1)) hx hb hr (fun t ht _ => ⟨⟨(-1), (), rfl, by rw [he], (by rw [he]; show va_P _ _ _ t.heap; rw [ht]; exact hP)⟩, hS.F ht⟩) hS.2.2 d_M_response_53
    | succ n ih =>
      intro i sl H locs ls hcnt hone hl hP hS g0 g1 g2 he
      rw [f_M_response_L24] at he
      refine lv_iload_n hx hb d_M_response_24 rfl (lv_at hl 2 rfl) ?_
      refine lv_aload_n hx hb d_M_response_25 rfl (lv_at hl 0 rfl) ?_
      refine va_get (D := D) (ci := 4) (v := .ref (ad 3)) (C := R_M) (T := F_M) (N := 18) hx hb hts in_M hown hK hP 0 mw_0 rfl 6 (by decide) (hts _ k_440) (fun _ h9 => h9) rfl d_M_response_26 ?_
      refine lv_iload_n hx hb d_M_response_29 rfl (lv_at hl 1 rfl) ?_
      have hi2 : vp_in p1 8 := (by first | with_reducible assumption | exact vi_isIn7 (by with_reducible assumption) | exact vi_isThing (by with_reducible assumption) | exact vi_decl (by with_reducible assumption) | exact vi_ready (by with_reducible assumption) | exact vi_run (by with_reducible assumption) (by with_reducible assumption) | exact vi_run (by with_reducible assumption) (vi_runner _) | exact vi_mTask (by with_reducible assumption) | exact vi_mThing (by with_reducible assumption) | exact vi_mdecl (by with_reducible assumption) | exact vi_mready (by with_reducible assumption))
      refine va_iald hx hb hK hP 3 0 mw_3 rfl hi2 d_M_response_30 ?_
      refine W.eq (g2 := F0 m 31 ls [.int (sl 3 p1.toNatClampNeg), .int (nI i)]) rfl ?_
      refine lv_icmp_gt (tgt := 52) hx hb d_M_response_31 (by decide) (fun h9 => absurd h9 (rs_ge hcnt hone (g2 _ (vi_lt g0)))) (fun _ => ?_)
      refine lv_aload_n hx hb d_M_response_34 rfl (lv_at hl 0 rfl) ?_
      refine lv_iload_n hx hb d_M_response_35 rfl (lv_at hl 1 rfl) ?_
      refine lv_iload_n hx hb d_M_response_36 rfl (lv_at hl 2 rfl) ?_
      refine rdV (As := [.int p1, .int (nI i)]) (rest := []) (na := 2) (c_M_load l D cI cT cH ad sl p1 (nI i) (by first | with_reducible assumption | exact vi_isIn7 (by with_reducible assumption) | exact vi_isThing (by with_reducible assumption) | exact vi_decl (by with_reducible assumption) | exact vi_ready (by with_reducible assumption) | exact vi_run (by with_reducible assumption) (by with_reducible assumption) | exact vi_run (by with_reducible assumption) (vi_runner _) | exact vi_mTask (by with_reducible assumption) | exact vi_mThing (by with_reducible assumption) | exact vi_mdecl (by with_reducible assumption) | exact vi_mready (by with_reducible assumption)) (by first | exact hy0 | exact hy1 | exact g1)) ⟨hx, hb, hml, hown, hts⟩ k_604 k_606 k_22 k_28 k_607 (by decide +kernel) (by decide) (by decide) hP hK hN (q0 := 0) (ci := 4) mw_0 rfl rfl hl.1 rfl (Nat.le_of_ble_eq_true rfl) d_M_response_37 ?_
      refine lv_iload_n hx hb d_M_response_40 rfl (lv_at hl 2 rfl) ?_
      refine lv_icmp_ne (tgt := 46) hx hb d_M_response_41 (by decide) (fun hc3 => ?_) (fun hc3 => ?_)
      · have he := he.trans (if_neg hc3)
        refine lv_iinc (k := 2) (v := (nI (i + 1))) hx hb d_M_response_46 hl rfl (by first | rfl | (rw [nI_succ]; rfl)) (by decide) rfl (fun ls hl => ?_)
        have hl : lv_has ls 3 [(2, .int (nI (i + 1))), (0, .ref (ad 0)), (1, .int p1)] := hl
        refine lv_goto (tgt := 24) hx hb d_M_response_49 (by decide) ?_
        exact ih (i + 1) sl H locs ls (by omega) (by omega) (lv_sub hl [1, 2, 0] rfl) hP hS (by first | with_reducible assumption | exact Or.inl rfl | exact (fun h9 => absurd h9 (by decide)) | exact (fun h9 => absurd rfl h9) | exact vi_runner _ | exact Or.inr (vp_in_nI (by omega) (by decide)) | exact Or.inr (by first | with_reducible assumption | exact vi_isIn7 (by with_reducible assumption) | exact vi_isThing (by with_reducible assumption) | exact vi_decl (by with_reducible assumption) | exact vi_ready (by with_reducible assumption) | exact vi_run (by with_reducible assumption) (by with_reducible assumption) | exact vi_run (by with_reducible assumption) (vi_runner _) | exact vi_mTask (by with_reducible assumption) | exact vi_mThing (by with_reducible assumption) | exact vi_mdecl (by with_reducible assumption) | exact vi_mready (by with_reducible assumption)) | exact (fun _ => ⟨(by first | with_reducible assumption | exact vi_isIn7 (by with_reducible assumption) | exact vi_isThing (by with_reducible assumption) | exact vi_decl (by with_reducible assumption) | exact vi_ready (by with_reducible assumption) | exact vi_run (by with_reducible assumption) (by with_reducible assumption) | exact vi_run (by with_reducible assumption) (vi_runner _) | exact vi_mTask (by with_reducible assumption) | exact vi_mThing (by with_reducible assumption) | exact vi_mdecl (by with_reducible assumption) | exact vi_mready (by with_reducible assumption)), (by first | with_reducible assumption | exact vi_isIn7 (by with_reducible assumption) | exact vi_isThing (by with_reducible assumption) | exact vi_decl (by with_reducible assumption) | exact vi_ready (by with_reducible assumption) | exact vi_run (by with_reducible assumption) (by with_reducible assumption) | exact vi_run (by with_reducible assumption) (vi_runner _) | exact vi_mTask (by with_reducible assumption) | exact vi_mThing (by with_reducible assumption) | exact vi_mdecl (by with_reducible assumption) | exact vi_mready (by with_reducible assumption))⟩) | exact (fun _ => ⟨vi_latest (by with_reducible assumption) (by with_reducible assumption), vi_run (by with_reducible assumption) (by with_reducible assumption)⟩) | exact (fun _ => (by with_reducible assumption : ¬ v4 = 0 → _) (by with_reducible assumption)) | exact (fun _ => (by first | with_reducible assumption | exact vi_isIn7 (by with_reducible assumption) | exact vi_isThing (by with_reducible assumption) | exact vi_decl (by with_reducible assumption) | exact vi_ready (by with_reducible assumption) | exact vi_run (by with_reducible assumption) (by with_reducible assumption) | exact vi_run (by with_reducible assumption) (vi_runner _) | exact vi_mTask (by with_reducible assumption) | exact vi_mThing (by with_reducible assumption) | exact vi_mdecl (by with_reducible assumption) | exact vi_mready (by with_reducible assumption))) | exact (by first | with_reducible assumption | exact vi_isIn7 (by with_reducible assumption) | exact vi_isThing (by with_reducible assumption) | exact vi_decl (by with_reducible assumption) | exact vi_ready (by with_reducible assumption) | exact vi_run (by with_reducible assumption) (by with_reducible assumption) | exact vi_run (by with_reducible assumption) (vi_runner _) | exact vi_mTask (by with_reducible assumption) | exact vi_mThing (by with_reducible assumption) | exact vi_mdecl (by with_reducible assumption) | exact vi_mready (by with_reducible assumption))) (by first | with_reducible assumption | exact Or.inl rfl | exact (fun h9 => absurd h9 (by decide)) | exact (fun h9 => absurd rfl h9) | exact vi_runner _ | exact Or.inr (vp_in_nI (by omega) (by decide)) | exact Or.inr (by first | with_reducible assumption | exact vi_isIn7 (by with_reducible assumption) | exact vi_isThing (by with_reducible assumption) | exact vi_decl (by with_reducible assumption) | exact vi_ready (by with_reducible assumption) | exact vi_run (by with_reducible assumption) (by with_reducible assumption) | exact vi_run (by with_reducible assumption) (vi_runner _) | exact vi_mTask (by with_reducible assumption) | exact vi_mThing (by with_reducible assumption) | exact vi_mdecl (by with_reducible assumption) | exact vi_mready (by with_reducible assumption)) | exact (fun _ => ⟨(by first | with_reducible assumption | exact vi_isIn7 (by with_reducible assumption) | exact vi_isThing (by with_reducible assumption) | exact vi_decl (by with_reducible assumption) | exact vi_ready (by with_reducible assumption) | exact vi_run (by with_reducible assumption) (by with_reducible assumption) | exact vi_run (by with_reducible assumption) (vi_runner _) | exact vi_mTask (by with_reducible assumption) | exact vi_mThing (by with_reducible assumption) | exact vi_mdecl (by with_reducible assumption) | exact vi_mready (by with_reducible assumption)), (by first | with_reducible assumption | exact vi_isIn7 (by with_reducible assumption) | exact vi_isThing (by with_reducible assumption) | exact vi_decl (by with_reducible assumption) | exact vi_ready (by with_reducible assumption) | exact vi_run (by with_reducible assumption) (by with_reducible assumption) | exact vi_run (by with_reducible assumption) (vi_runner _) | exact vi_mTask (by with_reducible assumption) | exact vi_mThing (by with_reducible assumption) | exact vi_mdecl (by with_reducible assumption) | exact vi_mready (by with_reducible assumption))⟩) | exact (fun _ => ⟨vi_latest (by with_reducible assumption) (by with_reducible assumption), vi_run (by with_reducible assumption) (by with_reducible assumption)⟩) | exact (fun _ => (by with_reducible assumption : ¬ v4 = 0 → _) (by with_reducible assumption)) | exact (fun _ => (by first | with_reducible assumption | exact vi_isIn7 (by with_reducible assumption) | exact vi_isThing (by with_reducible assumption) | exact vi_decl (by with_reducible assumption) | exact vi_ready (by with_reducible assumption) | exact vi_run (by with_reducible assumption) (by with_reducible assumption) | exact vi_run (by with_reducible assumption) (vi_runner _) | exact vi_mTask (by with_reducible assumption) | exact vi_mThing (by with_reducible assumption) | exact vi_mdecl (by with_reducible assumption) | exact vi_mready (by with_reducible assumption))) | exact (by first | with_reducible assumption | exact vi_isIn7 (by with_reducible assumption) | exact vi_isThing (by with_reducible assumption) | exact vi_decl (by with_reducible assumption) | exact vi_ready (by with_reducible assumption) | exact vi_run (by with_reducible assumption) (by with_reducible assumption) | exact vi_run (by with_reducible assumption) (vi_runner _) | exact vi_mTask (by with_reducible assumption) | exact vi_mThing (by with_reducible assumption) | exact vi_mdecl (by with_reducible assumption) | exact vi_mready (by with_reducible assumption))) (by first | with_reducible assumption | exact Or.inl rfl | exact (fun h9 => absurd h9 (by decide)) | exact (fun h9 => absurd rfl h9) | exact vi_runner _ | exact Or.inr (vp_in_nI (by omega) (by decide)) | exact Or.inr (by first | with_reducible assumption | exact vi_isIn7 (by with_reducible assumption) | exact vi_isThing (by with_reducible assumption) | exact vi_decl (by with_reducible assumption) | exact vi_ready (by with_reducible assumption) | exact vi_run (by with_reducible assumption) (by with_reducible assumption) | exact vi_run (by with_reducible assumption) (vi_runner _) | exact vi_mTask (by with_reducible assumption) | exact vi_mThing (by with_reducible assumption) | exact vi_mdecl (by with_reducible assumption) | exact vi_mready (by with_reducible assumption)) | exact (fun _ => ⟨(by first | with_reducible assumption | exact vi_isIn7 (by with_reducible assumption) | exact vi_isThing (by with_reducible assumption) | exact vi_decl (by with_reducible assumption) | exact vi_ready (by with_reducible assumption) | exact vi_run (by with_reducible assumption) (by with_reducible assumption) | exact vi_run (by with_reducible assumption) (vi_runner _) | exact vi_mTask (by with_reducible assumption) | exact vi_mThing (by with_reducible assumption) | exact vi_mdecl (by with_reducible assumption) | exact vi_mready (by with_reducible assumption)), (by first | with_reducible assumption | exact vi_isIn7 (by with_reducible assumption) | exact vi_isThing (by with_reducible assumption) | exact vi_decl (by with_reducible assumption) | exact vi_ready (by with_reducible assumption) | exact vi_run (by with_reducible assumption) (by with_reducible assumption) | exact vi_run (by with_reducible assumption) (vi_runner _) | exact vi_mTask (by with_reducible assumption) | exact vi_mThing (by with_reducible assumption) | exact vi_mdecl (by with_reducible assumption) | exact vi_mready (by with_reducible assumption))⟩) | exact (fun _ => ⟨vi_latest (by with_reducible assumption) (by with_reducible assumption), vi_run (by with_reducible assumption) (by with_reducible assumption)⟩) | exact (fun _ => (by with_reducible assumption : ¬ v4 = 0 → _) (by with_reducible assumption)) | exact (fun _ => (by first | with_reducible assumption | exact vi_isIn7 (by with_reducible assumption) | exact vi_isThing (by with_reducible assumption) | exact vi_decl (by with_reducible assumption) | exact vi_ready (by with_reducible assumption) | exact vi_run (by with_reducible assumption) (by with_reducible assumption) | exact vi_run (by with_reducible assumption) (vi_runner _) | exact vi_mTask (by with_reducible assumption) | exact vi_mThing (by with_reducible assumption) | exact vi_mdecl (by with_reducible assumption) | exact vi_mready (by with_reducible assumption))) | exact (by first | with_reducible assumption | exact vi_isIn7 (by with_reducible assumption) | exact vi_isThing (by with_reducible assumption) | exact vi_decl (by with_reducible assumption) | exact vi_ready (by with_reducible assumption) | exact vi_run (by with_reducible assumption) (by with_reducible assumption) | exact vi_run (by with_reducible assumption) (vi_runner _) | exact vi_mTask (by with_reducible assumption) | exact vi_mThing (by with_reducible assumption) | exact vi_mdecl (by with_reducible assumption) | exact vi_mready (by with_reducible assumption))) he
      · have he := he.trans (if_pos hc3)
        refine lv_iload_n hx hb d_M_response_44 rfl (lv_at hl 2 rfl) ?_
        exact W.iret (v := (nI i)) hx hb hr (fun t ht _ => ⟨⟨(nI i), (), rfl, by rw [he], (by rw [he]; show va_P _ _ _ t.heap; rw [ht]; exact hP)⟩, hS.F ht⟩) hS.2.2 d_M_response_45
  have he := f_M_response.eq_1 st p1
  refine lv_aload_n hx hb d_M_response_0 rfl (lv_at hl 0 rfl) ?_
  refine lv_iconst (v := 0) hx hb d_M_response_1 (by decide) ?_
  refine va_put (D := D) (ci := 4) (v := .int 0) (ty := .int) (C := R_M) (T := F_M) (N := 18) hx hb hts in_M ft_M ft_M_ok n_M hown hK hP (mw_D hI) hS 0 mw_0 rfl 0 (by decide) (hts _ k_434) (fun _ h9 => h9) rfl (by decide +kernel) rfl rfl (Nat.le_of_ble_eq_true rfl) d_M_response_2 (fun H locs hP _ hS => ?_)
  rw [mp_0 (k := 0) (by decide)] at hP
  generalize hw5 : wr st 0 0 0 = sw4 at hP he
  have ehy0_1 : ∀ t, sw4 1 t = st 1 t := fun t => by rw [← hw5]; exact wr_ne (by omega)
  have ehy0_3 : ∀ t, sw4 3 t = st 3 t := fun t => by rw [← hw5]; exact wr_ne (by omega)
  have hy0 : ∀ t, t < 8 → 0 < sw4 1 t → ¬ sw4 3 t = 0 := fun t ht hb => by rw [ehy0_3]; rw [ehy0_1] at hb; exact hy0 t ht hb
  have ehy1_3 : ∀ t, sw4 3 t = st 3 t := fun t => by rw [← hw5]; exact wr_ne (by omega)
  have hy1 : ∀ t, t < 8 → (sw4 3 t).toNatClampNeg < 1000 := fun t ht => by rw [ehy1_3]; exact hy1 t ht
  refine W.eq (g2 := F0 m 5 ls []) rfl ?_
  rw [f_M_response_S5] at he
  refine lv_aload_n hx hb d_M_response_5 rfl (lv_at hl 0 rfl) ?_
  refine va_get (D := D) (ci := 4) (v := .int (sw4 0 1)) (C := R_M) (T := F_M) (N := 18) hx hb hts in_M hown hK hP 0 mw_0 rfl 1 (by decide) (hts _ k_435) (fun _ h9 => h9) rfl d_M_response_6 ?_
  refine lv_if_eq (tgt := 20) hx hb d_M_response_9 (by decide) (fun hc6 => ?_) (fun hc6 => ?_)
  · have he := he.trans (if_pos hc6)
    refine lv_iconst (v := (-1)) hx hb d_M_response_20 (by decide) ?_
    exact W.iret (v := (-1)) hx hb hr (fun t ht _ => ⟨⟨(-1), (), rfl, by rw [he], (by rw [he]; show va_P _ _ _ t.heap; rw [ht]; exact hP)⟩, hS.F ht⟩) hS.2.2 d_M_response_21
  · have he := he.trans (if_neg hc6)
    refine lv_aload_n hx hb d_M_response_12 rfl (lv_at hl 0 rfl) ?_
    refine lv_iload_n hx hb d_M_response_13 rfl (lv_at hl 1 rfl) ?_
    refine rdV (As := [.int p1]) (rest := []) (na := 1) (c_M_isDeclared l D cI cT cH ad sw4 p1 ) ⟨hx, hb, hml, hown, hts⟩ k_500 k_502 k_12 k_28 k_503 (by decide +kernel) (by decide) (by decide) hP hK hN (q0 := 0) (ci := 4) mw_0 rfl rfl hl.1 rfl (Nat.le_of_ble_eq_true rfl) d_M_response_14 ?_
    refine lv_if_ne (tgt := 22) hx hb d_M_response_17 (by decide) (fun hc7 => ?_) (fun hc7 => ?_)
    · have he := he.trans (if_neg hc7)
      refine lv_iconst (v := 1) hx hb d_M_response_22 (by decide) ?_
      refine lv_istore_n hx hb d_M_response_23 rfl hl (by decide) rfl (fun ls hl => ?_)
      have hl : lv_has ls 3 [(2, .int 1), (0, .ref (ad 0)), (1, .int p1)] := hl
      exact L24 _ 1 sw4 H locs ls (by first | decide | omega) (by decide) (lv_sub hl [1, 2, 0] rfl) hP hS (by first | with_reducible assumption | exact Or.inl rfl | exact (fun h9 => absurd h9 (by decide)) | exact (fun h9 => absurd rfl h9) | exact vi_runner _ | exact Or.inr (vp_in_nI (by omega) (by decide)) | exact Or.inr (by first | with_reducible assumption | exact vi_isIn7 (by with_reducible assumption) | exact vi_isThing (by with_reducible assumption) | exact vi_decl (by with_reducible assumption) | exact vi_ready (by with_reducible assumption) | exact vi_run (by with_reducible assumption) (by with_reducible assumption) | exact vi_run (by with_reducible assumption) (vi_runner _) | exact vi_mTask (by with_reducible assumption) | exact vi_mThing (by with_reducible assumption) | exact vi_mdecl (by with_reducible assumption) | exact vi_mready (by with_reducible assumption)) | exact (fun _ => ⟨(by first | with_reducible assumption | exact vi_isIn7 (by with_reducible assumption) | exact vi_isThing (by with_reducible assumption) | exact vi_decl (by with_reducible assumption) | exact vi_ready (by with_reducible assumption) | exact vi_run (by with_reducible assumption) (by with_reducible assumption) | exact vi_run (by with_reducible assumption) (vi_runner _) | exact vi_mTask (by with_reducible assumption) | exact vi_mThing (by with_reducible assumption) | exact vi_mdecl (by with_reducible assumption) | exact vi_mready (by with_reducible assumption)), (by first | with_reducible assumption | exact vi_isIn7 (by with_reducible assumption) | exact vi_isThing (by with_reducible assumption) | exact vi_decl (by with_reducible assumption) | exact vi_ready (by with_reducible assumption) | exact vi_run (by with_reducible assumption) (by with_reducible assumption) | exact vi_run (by with_reducible assumption) (vi_runner _) | exact vi_mTask (by with_reducible assumption) | exact vi_mThing (by with_reducible assumption) | exact vi_mdecl (by with_reducible assumption) | exact vi_mready (by with_reducible assumption))⟩) | exact (fun _ => ⟨vi_latest (by with_reducible assumption) (by with_reducible assumption), vi_run (by with_reducible assumption) (by with_reducible assumption)⟩) | exact (fun _ => (by with_reducible assumption : ¬ v4 = 0 → _) (by with_reducible assumption)) | exact (fun _ => (by first | with_reducible assumption | exact vi_isIn7 (by with_reducible assumption) | exact vi_isThing (by with_reducible assumption) | exact vi_decl (by with_reducible assumption) | exact vi_ready (by with_reducible assumption) | exact vi_run (by with_reducible assumption) (by with_reducible assumption) | exact vi_run (by with_reducible assumption) (vi_runner _) | exact vi_mTask (by with_reducible assumption) | exact vi_mThing (by with_reducible assumption) | exact vi_mdecl (by with_reducible assumption) | exact vi_mready (by with_reducible assumption))) | exact (by first | with_reducible assumption | exact vi_isIn7 (by with_reducible assumption) | exact vi_isThing (by with_reducible assumption) | exact vi_decl (by with_reducible assumption) | exact vi_ready (by with_reducible assumption) | exact vi_run (by with_reducible assumption) (by with_reducible assumption) | exact vi_run (by with_reducible assumption) (vi_runner _) | exact vi_mTask (by with_reducible assumption) | exact vi_mThing (by with_reducible assumption) | exact vi_mdecl (by with_reducible assumption) | exact vi_mready (by with_reducible assumption))) (by first | with_reducible assumption | exact Or.inl rfl | exact (fun h9 => absurd h9 (by decide)) | exact (fun h9 => absurd rfl h9) | exact vi_runner _ | exact Or.inr (vp_in_nI (by omega) (by decide)) | exact Or.inr (by first | with_reducible assumption | exact vi_isIn7 (by with_reducible assumption) | exact vi_isThing (by with_reducible assumption) | exact vi_decl (by with_reducible assumption) | exact vi_ready (by with_reducible assumption) | exact vi_run (by with_reducible assumption) (by with_reducible assumption) | exact vi_run (by with_reducible assumption) (vi_runner _) | exact vi_mTask (by with_reducible assumption) | exact vi_mThing (by with_reducible assumption) | exact vi_mdecl (by with_reducible assumption) | exact vi_mready (by with_reducible assumption)) | exact (fun _ => ⟨(by first | with_reducible assumption | exact vi_isIn7 (by with_reducible assumption) | exact vi_isThing (by with_reducible assumption) | exact vi_decl (by with_reducible assumption) | exact vi_ready (by with_reducible assumption) | exact vi_run (by with_reducible assumption) (by with_reducible assumption) | exact vi_run (by with_reducible assumption) (vi_runner _) | exact vi_mTask (by with_reducible assumption) | exact vi_mThing (by with_reducible assumption) | exact vi_mdecl (by with_reducible assumption) | exact vi_mready (by with_reducible assumption)), (by first | with_reducible assumption | exact vi_isIn7 (by with_reducible assumption) | exact vi_isThing (by with_reducible assumption) | exact vi_decl (by with_reducible assumption) | exact vi_ready (by with_reducible assumption) | exact vi_run (by with_reducible assumption) (by with_reducible assumption) | exact vi_run (by with_reducible assumption) (vi_runner _) | exact vi_mTask (by with_reducible assumption) | exact vi_mThing (by with_reducible assumption) | exact vi_mdecl (by with_reducible assumption) | exact vi_mready (by with_reducible assumption))⟩) | exact (fun _ => ⟨vi_latest (by with_reducible assumption) (by with_reducible assumption), vi_run (by with_reducible assumption) (by with_reducible assumption)⟩) | exact (fun _ => (by with_reducible assumption : ¬ v4 = 0 → _) (by with_reducible assumption)) | exact (fun _ => (by first | with_reducible assumption | exact vi_isIn7 (by with_reducible assumption) | exact vi_isThing (by with_reducible assumption) | exact vi_decl (by with_reducible assumption) | exact vi_ready (by with_reducible assumption) | exact vi_run (by with_reducible assumption) (by with_reducible assumption) | exact vi_run (by with_reducible assumption) (vi_runner _) | exact vi_mTask (by with_reducible assumption) | exact vi_mThing (by with_reducible assumption) | exact vi_mdecl (by with_reducible assumption) | exact vi_mready (by with_reducible assumption))) | exact (by first | with_reducible assumption | exact vi_isIn7 (by with_reducible assumption) | exact vi_isThing (by with_reducible assumption) | exact vi_decl (by with_reducible assumption) | exact vi_ready (by with_reducible assumption) | exact vi_run (by with_reducible assumption) (by with_reducible assumption) | exact vi_run (by with_reducible assumption) (vi_runner _) | exact vi_mTask (by with_reducible assumption) | exact vi_mThing (by with_reducible assumption) | exact vi_mdecl (by with_reducible assumption) | exact vi_mready (by with_reducible assumption))) (by first | with_reducible assumption | exact Or.inl rfl | exact (fun h9 => absurd h9 (by decide)) | exact (fun h9 => absurd rfl h9) | exact vi_runner _ | exact Or.inr (vp_in_nI (by omega) (by decide)) | exact Or.inr (by first | with_reducible assumption | exact vi_isIn7 (by with_reducible assumption) | exact vi_isThing (by with_reducible assumption) | exact vi_decl (by with_reducible assumption) | exact vi_ready (by with_reducible assumption) | exact vi_run (by with_reducible assumption) (by with_reducible assumption) | exact vi_run (by with_reducible assumption) (vi_runner _) | exact vi_mTask (by with_reducible assumption) | exact vi_mThing (by with_reducible assumption) | exact vi_mdecl (by with_reducible assumption) | exact vi_mready (by with_reducible assumption)) | exact (fun _ => ⟨(by first | with_reducible assumption | exact vi_isIn7 (by with_reducible assumption) | exact vi_isThing (by with_reducible assumption) | exact vi_decl (by with_reducible assumption) | exact vi_ready (by with_reducible assumption) | exact vi_run (by with_reducible assumption) (by with_reducible assumption) | exact vi_run (by with_reducible assumption) (vi_runner _) | exact vi_mTask (by with_reducible assumption) | exact vi_mThing (by with_reducible assumption) | exact vi_mdecl (by with_reducible assumption) | exact vi_mready (by with_reducible assumption)), (by first | with_reducible assumption | exact vi_isIn7 (by with_reducible assumption) | exact vi_isThing (by with_reducible assumption) | exact vi_decl (by with_reducible assumption) | exact vi_ready (by with_reducible assumption) | exact vi_run (by with_reducible assumption) (by with_reducible assumption) | exact vi_run (by with_reducible assumption) (vi_runner _) | exact vi_mTask (by with_reducible assumption) | exact vi_mThing (by with_reducible assumption) | exact vi_mdecl (by with_reducible assumption) | exact vi_mready (by with_reducible assumption))⟩) | exact (fun _ => ⟨vi_latest (by with_reducible assumption) (by with_reducible assumption), vi_run (by with_reducible assumption) (by with_reducible assumption)⟩) | exact (fun _ => (by with_reducible assumption : ¬ v4 = 0 → _) (by with_reducible assumption)) | exact (fun _ => (by first | with_reducible assumption | exact vi_isIn7 (by with_reducible assumption) | exact vi_isThing (by with_reducible assumption) | exact vi_decl (by with_reducible assumption) | exact vi_ready (by with_reducible assumption) | exact vi_run (by with_reducible assumption) (by with_reducible assumption) | exact vi_run (by with_reducible assumption) (vi_runner _) | exact vi_mTask (by with_reducible assumption) | exact vi_mThing (by with_reducible assumption) | exact vi_mdecl (by with_reducible assumption) | exact vi_mready (by with_reducible assumption))) | exact (by first | with_reducible assumption | exact vi_isIn7 (by with_reducible assumption) | exact vi_isThing (by with_reducible assumption) | exact vi_decl (by with_reducible assumption) | exact vi_ready (by with_reducible assumption) | exact vi_run (by with_reducible assumption) (by with_reducible assumption) | exact vi_run (by with_reducible assumption) (vi_runner _) | exact vi_mTask (by with_reducible assumption) | exact vi_mThing (by with_reducible assumption) | exact vi_mdecl (by with_reducible assumption) | exact vi_mready (by with_reducible assumption))) he
    · have he := he.trans (if_pos hc7)
      refine lv_iconst (v := (-1)) hx hb d_M_response_20 (by decide) ?_
      exact W.iret (v := (-1)) hx hb hr (fun t ht _ => ⟨⟨(-1), (), rfl, by rw [he], (by rw [he]; show va_P _ _ _ t.heap; rw [ht]; exact hP)⟩, hS.F ht⟩) hS.2.2 d_M_response_21
set_option maxHeartbeats 4000000 in
set_option maxRecDepth 100000 in
theorem c_M_notes (l : Launch) (D : va_G) (cI cT cH : ClassId) (ad : Nat → Nat) (st : St) (hI : ∀ i j, i < 13 → j < 13 → ad i = ad j → i = j) : Met l y_M_notes w_M_notes { frames := 0, cells := 0, slots := 0, locals := 0 } (va_Pc [.ref (ad 0)] (gW D cI cT cH (mw cI ad st))) (qI D (f_M_notes st).1 (mw cI ad ((f_M_notes st).2)) (inA ad 13)) 0 0 (inA ad 13) := by
  refine Met.ofW (cc := b_M_notes) (maxL := 1) (ret := (some .int)) (by decide +kernel) rfl ?_
  intro p e s m args below meth c s₁ B hml hv
  obtain ⟨rfl, hP, hK, hN⟩ := hv
  have hx := B.exec
  have hb := B.bytes
  have hr := B.returns
  have hlocks := B.notSynchronized
  have hts0 := atoms_spec (ws := w_M_notes) B.pre
  have hts : ∀ w ∈ TT, w.before [.ref (ad 0)].toArray s = true := fun w h => hts0 w (List.mem_cons_of_mem _ h)
  have hown : s.vm.findClass R_M = some m.cls := findClass_of_methodNamed B.named
  have hS : va_S (inA ad 13) s.heap s.heap [] := va_S.rf
  have hl := lv_entry ([.ref (ad 0)]) (n := 1) (Nat.le_of_ble_eq_true rfl)
  rw [lg_entry_eq]
  generalize (lg_sl ([.ref (ad 0)]) ++ List.replicate (1 - (lg_sl ([.ref (ad 0)])).length) Slot.unset).toArray = ls at hl ⊢
  have hl : lv_has ls 1 [(0, .ref (ad 0))] := hl
  have he := f_M_notes.eq_1 st
  refine lv_aload_n hx hb d_M_notes_0 rfl (lv_at hl 0 rfl) ?_
  refine lv_iconst (v := 0) hx hb d_M_notes_1 (by decide) ?_
  refine va_put (D := D) (ci := 4) (v := .int 0) (ty := .int) (C := R_M) (T := F_M) (N := 18) hx hb hts in_M ft_M ft_M_ok n_M hown hK hP (mw_D hI) hS 0 mw_0 rfl 0 (by decide) (hts _ k_434) (fun _ h9 => h9) rfl (by decide +kernel) rfl rfl (Nat.le_of_ble_eq_true rfl) d_M_notes_2 (fun H locs hP _ hS => ?_)
  rw [mp_0 (k := 0) (by decide)] at hP
  generalize hw2 : wr st 0 0 0 = sw1 at hP he
  refine W.eq (g2 := F0 m 5 ls []) rfl ?_
  rw [f_M_notes_S5] at he
  refine lv_aload_n hx hb d_M_notes_5 rfl (lv_at hl 0 rfl) ?_
  refine va_get (D := D) (ci := 4) (v := .int (sw1 0 16)) (C := R_M) (T := F_M) (N := 18) hx hb hts in_M hown hK hP 0 mw_0 rfl 16 (by decide) (hts _ k_450) (fun _ h9 => h9) rfl d_M_notes_6 ?_
  exact W.iret (v := (sw1 0 16)) hx hb hr (fun t ht _ => ⟨⟨(sw1 0 16), (), rfl, by rw [he], (by rw [he]; show va_P _ _ _ t.heap; rw [ht]; exact hP)⟩, hS.F ht⟩) hS.2.2 d_M_notes_9
set_option maxHeartbeats 4000000 in
set_option maxRecDepth 100000 in
theorem c_M_note (l : Launch) (D : va_G) (cI cT cH : ClassId) (ad : Nat → Nat) (st : St) (p1 : Int32) (hI : ∀ i j, i < 13 → j < 13 → ad i = ad j → i = j) : Met l y_M_note w_M_note { frames := 0, cells := 0, slots := 0, locals := 0 } (va_Pc [.ref (ad 0), .int p1] (gW D cI cT cH (mw cI ad st))) (qI D (f_M_note st p1).1 (mw cI ad ((f_M_note st p1).2)) (inA ad 13)) 0 0 (inA ad 13) := by
  refine Met.ofW (cc := b_M_note) (maxL := 2) (ret := (some .int)) (by decide +kernel) rfl ?_
  intro p e s m args below meth c s₁ B hml hv
  obtain ⟨rfl, hP, hK, hN⟩ := hv
  have hx := B.exec
  have hb := B.bytes
  have hr := B.returns
  have hlocks := B.notSynchronized
  have hts0 := atoms_spec (ws := w_M_note) B.pre
  have hts : ∀ w ∈ TT, w.before [.ref (ad 0), .int p1].toArray s = true := fun w h => hts0 w (List.mem_cons_of_mem _ h)
  have hown : s.vm.findClass R_M = some m.cls := findClass_of_methodNamed B.named
  have hS : va_S (inA ad 13) s.heap s.heap [] := va_S.rf
  have hl := lv_entry ([.ref (ad 0), .int p1]) (n := 2) (Nat.le_of_ble_eq_true rfl)
  rw [lg_entry_eq]
  generalize (lg_sl ([.ref (ad 0), .int p1]) ++ List.replicate (2 - (lg_sl ([.ref (ad 0), .int p1])).length) Slot.unset).toArray = ls at hl ⊢
  have hl : lv_has ls 2 [(0, .ref (ad 0)), (1, .int p1)] := hl
  have he := f_M_note.eq_1 st p1
  refine lv_aload_n hx hb d_M_note_0 rfl (lv_at hl 0 rfl) ?_
  refine lv_iconst (v := 0) hx hb d_M_note_1 (by decide) ?_
  refine va_put (D := D) (ci := 4) (v := .int 0) (ty := .int) (C := R_M) (T := F_M) (N := 18) hx hb hts in_M ft_M ft_M_ok n_M hown hK hP (mw_D hI) hS 0 mw_0 rfl 0 (by decide) (hts _ k_434) (fun _ h9 => h9) rfl (by decide +kernel) rfl rfl (Nat.le_of_ble_eq_true rfl) d_M_note_2 (fun H locs hP _ hS => ?_)
  rw [mp_0 (k := 0) (by decide)] at hP
  generalize hw2 : wr st 0 0 0 = sw1 at hP he
  refine W.eq (g2 := F0 m 5 ls []) rfl ?_
  rw [f_M_note_S5] at he
  refine lv_iload_n hx hb d_M_note_5 rfl (lv_at hl 1 rfl) ?_
  refine lv_if_lt (tgt := 23) hx hb d_M_note_6 (by decide) (fun hc3 => ?_) (fun hc3 => ?_)
  · have he := he.trans (if_pos hc3)
    refine lv_iconst (v := (-1)) hx hb d_M_note_23 (by decide) ?_
    refine lv_goto (tgt := 43) hx hb d_M_note_24 (by decide) ?_
    exact W.iret (v := (-1)) hx hb hr (fun t ht _ => ⟨⟨(-1), (), rfl, by rw [he], (by rw [he]; show va_P _ _ _ t.heap; rw [ht]; exact hP)⟩, hS.F ht⟩) hS.2.2 d_M_note_43
  · have he := he.trans (if_neg hc3)
    refine lv_iload_n hx hb d_M_note_9 rfl (lv_at hl 1 rfl) ?_
    refine lv_bipush (v := 40) hx hb d_M_note_10 (by decide) ?_
    refine lv_icmp_ge (tgt := 23) hx hb d_M_note_12 (by decide) (fun hc4 => ?_) (fun hc4 => ?_)
    · have he := he.trans (if_pos hc4)
      refine lv_iconst (v := (-1)) hx hb d_M_note_23 (by decide) ?_
      refine lv_goto (tgt := 43) hx hb d_M_note_24 (by decide) ?_
      exact W.iret (v := (-1)) hx hb hr (fun t ht _ => ⟨⟨(-1), (), rfl, by rw [he], (by rw [he]; show va_P _ _ _ t.heap; rw [ht]; exact hP)⟩, hS.F ht⟩) hS.2.2 d_M_note_43
    · have he := he.trans (if_neg hc4)
      refine lv_iload_n hx hb d_M_note_15 rfl (lv_at hl 1 rfl) ?_
      refine lv_aload_n hx hb d_M_note_16 rfl (lv_at hl 0 rfl) ?_
      refine va_get (D := D) (ci := 4) (v := .int (sw1 0 16)) (C := R_M) (T := F_M) (N := 18) hx hb hts in_M hown hK hP 0 mw_0 rfl 16 (by decide) (hts _ k_450) (fun _ h9 => h9) rfl d_M_note_17 ?_
      refine lv_icmp_lt (tgt := 27) hx hb d_M_note_20 (by decide) (fun hc5 => ?_) (fun hc5 => ?_)
      · have he := he.trans (if_pos hc5)
        refine lv_aload_n hx hb d_M_note_27 rfl (lv_at hl 0 rfl) ?_
        refine va_get (D := D) (ci := 4) (v := .ref (ad 12)) (C := R_M) (T := F_M) (N := 18) hx hb hts in_M hown hK hP 0 mw_0 rfl 17 (by decide) (hts _ k_451) (fun _ h9 => h9) rfl d_M_note_28 ?_
        refine lv_aload_n hx hb d_M_note_31 rfl (lv_at hl 0 rfl) ?_
        refine va_get (D := D) (ci := 4) (v := .int (sw1 0 16)) (C := R_M) (T := F_M) (N := 18) hx hb hts in_M hown hK hP 0 mw_0 rfl 16 (by decide) (hts _ k_450) (fun _ h9 => h9) rfl d_M_note_32 ?_
        refine lv_iconst (v := 1) hx hb d_M_note_35 (by decide) ?_
        refine lv_isub hx hb d_M_note_36 ?_
        refine lv_iload_n hx hb d_M_note_37 rfl (lv_at hl 1 rfl) ?_
        refine lv_isub hx hb d_M_note_38 ?_
        refine lv_bipush (v := 40) hx hb d_M_note_39 (by decide) ?_
        refine lv_irem hx hb d_M_note_41 (by first | with_reducible assumption | exact vi_ne0 (by with_reducible assumption) | exact hy1 _ (by omega) (i32_pos (by with_reducible assumption)) | decide) ?_
        refine W.eq (g2 := F0 m 42 ls [.int (irem (((sw1 0 16) - 1) - p1) 40), .ref (ad 12)]) rfl ?_
        have hi6 : vp_in (irem (((sw1 0 16) - 1) - p1) 40) 40 := (vi_mnote (by with_reducible assumption) (by with_reducible assumption))
        refine va_iald hx hb hK hP 12 0 mw_12 rfl hi6 d_M_note_42 ?_
        refine W.eq (g2 := F0 m 43 ls [.int (sw1 12 (irem (((sw1 0 16) - 1) - p1) 40).toNatClampNeg)]) rfl ?_
        exact W.iret (v := (sw1 12 (irem (((sw1 0 16) - 1) - p1) 40).toNatClampNeg)) hx hb hr (fun t ht _ => ⟨⟨(sw1 12 (irem (((sw1 0 16) - 1) - p1) 40).toNatClampNeg), (), rfl, by rw [he], (by rw [he]; show va_P _ _ _ t.heap; rw [ht]; exact hP)⟩, hS.F ht⟩) hS.2.2 d_M_note_43
      · have he := he.trans (if_neg hc5)
        refine lv_iconst (v := (-1)) hx hb d_M_note_23 (by decide) ?_
        refine lv_goto (tgt := 43) hx hb d_M_note_24 (by decide) ?_
        exact W.iret (v := (-1)) hx hb hr (fun t ht _ => ⟨⟨(-1), (), rfl, by rw [he], (by rw [he]; show va_P _ _ _ t.heap; rw [ht]; exact hP)⟩, hS.F ht⟩) hS.2.2 d_M_note_43
