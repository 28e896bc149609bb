set_option maxHeartbeats 4000000 in
set_option maxRecDepth 100000 in
theorem c_M_pass (l : Launch) (D : va_G) (cI cT cH : ClassId) (ad : Nat → Nat) (st : St) (p1 : Int32) (hI : ∀ i j, i < 13 → j < 13 → ad i = ad j → i = j) : Met l y_M_pass w_M_pass { frames := 2, cells := 0, slots := 0, locals := 44 } (va_Pc [.ref (ad 0), .int p1] (gW D cI cT cH (mw cI ad st))) (qI D (f_M_pass st p1).1 (mw cI ad ((f_M_pass st p1).2)) (inA ad 13)) 0 0 (inA ad 13) := by
  refine Met.ofW (cc := b_M_pass) (maxL := 4) (ret := (some .int)) (by decide +kernel) rfl ?_
  intro p e s m args below meth c s₁ B hml hv
  obtain ⟨rfl, hP, hK, hN⟩ := hv
  have hx := B.exec
  have hb := B.bytes
  have hr := B.returns
  have hlocks := B.notSynchronized
  have hts0 := atoms_spec (ws := w_M_pass) B.pre
  have hts : ∀ w ∈ TT, w.before [.ref (ad 0), .int p1].toArray s = true := fun w h => hts0 w (List.mem_cons_of_mem _ h)
  have hown : s.vm.findClass R_M = some m.cls := findClass_of_methodNamed B.named
  have hS : va_S (inA ad 13) s.heap s.heap [] := va_S.rf
  have hl := lv_entry ([.ref (ad 0), .int p1]) (n := 4) (Nat.le_of_ble_eq_true rfl)
  rw [lg_entry_eq]
  generalize (lg_sl ([.ref (ad 0), .int p1]) ++ List.replicate (4 - (lg_sl ([.ref (ad 0), .int p1])).length) Slot.unset).toArray = ls at hl ⊢
  have hl : lv_has ls 4 [(0, .ref (ad 0)), (1, .int p1)] := hl
  have L42 : ∀ (n i : Nat) (v2 : Int32) (sl : St) (H : Heap) (locs : List Loc) (ls : Array Slot), i + n = 8 → lv_has ls 4 [(0, .ref (ad 0)), (1, .int p1), (2, .int v2), (3, .int (nI i))] → va_P D cls9 (mw cI ad sl) H → va_S (inA ad 13) s.heap H locs → (v2 = (-1) ∨ vp_in v2 8) → f_M_pass st p1 = f_M_pass_L42 n i sl p1 v2 → W p l e (headSpec w_M_pass { frames := 2, cells := 0, slots := 0, locals := 44 }).room s m [.ref (ad 0), .int p1].toArray below meth c H locs 0 0 (MQ below (qI D (f_M_pass st p1).1 (mw cI ad ((f_M_pass st p1).2)) (inA ad 13)) [.ref (ad 0), .int p1].toArray s 0 0 (inA ad 13)) (F0 m 42 ls []) := by
    intro n
    induction n with
    | zero =>
      intro i v2 sl H locs ls hcnt hl hP hS g0 he
      have hz : i = 8 := by omega
      subst hz
      rw [f_M_pass_L42] at he
      refine lv_iload_n hx hb d_M_pass_42 rfl (lv_at hl 3 rfl) ?_
      refine lv_bipush (v := 8) hx hb d_M_pass_43 (by decide) ?_
      refine lv_icmp_ge (tgt := 116) hx hb d_M_pass_45 (by decide) (fun _ => ?_) (fun h9 => absurd (by decide) h9)
      refine lv_aload_n hx hb d_M_pass_116 rfl (lv_at hl 0 rfl) ?_
      refine va_get (D := D) (ci := 4) (v := .int (sl 0 2)) (C := R_M) (T := F_M) (N := 18) hx hb hts in_M hown hK hP 0 mw_0 rfl 2 (by decide) (hts _ k_436) (fun _ h9 => h9) rfl d_M_pass_117 ?_
      exact W.iret (v := (sl 0 2)) hx hb hr (fun t ht _ => ⟨⟨(sl 0 2), (), rfl, by rw [he], (by rw [he]; show va_P _ _ _ t.heap; rw [ht]; exact hP)⟩, hS.F ht⟩) hS.2.2 d_M_pass_120
    | succ n ih =>
      intro i v2 sl H locs ls hcnt hl hP hS g0 he
      have hi8 : i < 8 := by omega
      rw [f_M_pass_L42] at he
      refine lv_iload_n hx hb d_M_pass_42 rfl (lv_at hl 3 rfl) ?_
      refine lv_bipush (v := 8) hx hb d_M_pass_43 (by decide) ?_
      refine lv_icmp_ge (tgt := 116) hx hb d_M_pass_45 (by decide) (fun h9 => absurd h9 (nlt_8 hi8)) (fun _ => ?_)
      refine lv_iload_n hx hb d_M_pass_48 rfl (lv_at hl 2 rfl) ?_
      refine lv_iconst (v := (-1)) hx hb d_M_pass_49 (by decide) ?_
      refine lv_icmp_eq (tgt := 116) hx hb d_M_pass_50 (by decide) (fun hc1 => ?_) (fun hc1 => ?_)
      · have he := he.trans (if_pos hc1)
        refine lv_aload_n hx hb d_M_pass_116 rfl (lv_at hl 0 rfl) ?_
        refine va_get (D := D) (ci := 4) (v := .int (sl 0 2)) (C := R_M) (T := F_M) (N := 18) hx hb hts in_M hown hK hP 0 mw_0 rfl 2 (by decide) (hts _ k_436) (fun _ h9 => h9) rfl d_M_pass_117 ?_
        exact W.iret (v := (sl 0 2)) hx hb hr (fun t ht _ => ⟨⟨(sl 0 2), (), rfl, by rw [he], (by rw [he]; show va_P _ _ _ t.heap; rw [ht]; exact hP)⟩, hS.F ht⟩) hS.2.2 d_M_pass_120
      · have he := he.trans (if_neg hc1)
        refine lv_aload_n hx hb d_M_pass_53 rfl (lv_at hl 0 rfl) ?_
        refine va_get (D := D) (ci := 4) (v := .ref (ad 6)) (C := R_M) (T := F_M) (N := 18) hx hb hts in_M hown hK hP 0 mw_0 rfl 9 (by decide) (hts _ k_443) (fun _ h9 => h9) rfl d_M_pass_54 ?_
        refine lv_iload_n hx hb d_M_pass_57 rfl (lv_at hl 3 rfl) ?_
        refine lv_dup2_11 hx hb d_M_pass_58 rfl rfl ?_
        have hi2 : vp_in (nI i) 8 := (vp_in_nI (by omega) (by decide))
        refine va_iald hx hb hK hP 6 0 mw_6 rfl hi2 d_M_pass_59 ?_
        rw [show (nI i).toNatClampNeg = i from nI_clamp (by omega)]
        refine W.eq (g2 := F0 m 60 ls [.int (sl 6 i), .int (nI i), .ref (ad 6)]) rfl ?_
        refine lv_iload_n hx hb d_M_pass_60 rfl (lv_at hl 3 rfl) ?_
        refine lv_iload_n hx hb d_M_pass_61 rfl (lv_at hl 2 rfl) ?_
        refine lv_icmp_ne (tgt := 69) hx hb d_M_pass_62 (by decide) (fun hc3 => ?_) (fun hc3 => ?_)
        · have he := he.trans (if_neg hc3)
          refine lv_iconst (v := 0) hx hb d_M_pass_69 (by decide) ?_
          refine lv_iadd hx hb d_M_pass_70 ?_
          have hi4 : vp_in (nI i) 8 := (vp_in_nI (by omega) (by decide))
          refine va_iast hx hb hK hP (mw_D hI) hS 6 0 mw_6 rfl hi4 d_M_pass_71 (fun H locs hP _ hS => ?_)
          rw [show (nI i).toNatClampNeg = i from nI_clamp (by omega)] at hP
          rw [mp_6] at hP
          generalize hw6 : wr sl 6 i ((sl 6 i) + 0) = sw5 at hP he
          have g0 : v2 = (-1) ∨ vp_in v2 8 := by exact g0
          refine W.eq (g2 := F0 m 72 ls []) rfl ?_
          refine lv_aload_n hx hb d_M_pass_72 rfl (lv_at hl 0 rfl) ?_
          refine va_get (D := D) (ci := 4) (v := .ref (ad 7)) (C := R_M) (T := F_M) (N := 18) hx hb hts in_M hown hK hP 0 mw_0 rfl 10 (by decide) (hts _ k_444) (fun _ h9 => h9) rfl d_M_pass_73 ?_
          refine lv_iload_n hx hb d_M_pass_76 rfl (lv_at hl 3 rfl) ?_
          refine lv_dup2_11 hx hb d_M_pass_77 rfl rfl ?_
          have hi7 : vp_in (nI i) 8 := (vp_in_nI (by omega) (by decide))
          refine va_iald hx hb hK hP 7 0 mw_7 rfl hi7 d_M_pass_78 ?_
          rw [show (nI i).toNatClampNeg = i from nI_clamp (by omega)]
          refine W.eq (g2 := F0 m 79 ls [.int (sw5 7 i), .int (nI i), .ref (ad 7)]) rfl ?_
          refine lv_aload_n hx hb d_M_pass_79 rfl (lv_at hl 0 rfl) ?_
          refine va_get (D := D) (ci := 4) (v := .ref (ad 4)) (C := R_M) (T := F_M) (N := 18) hx hb hts in_M hown hK hP 0 mw_0 rfl 7 (by decide) (hts _ k_441) (fun _ h9 => h9) rfl d_M_pass_80 ?_
          refine lv_iload_n hx hb d_M_pass_83 rfl (lv_at hl 3 rfl) ?_
          have hi8 : vp_in (nI i) 8 := (vp_in_nI (by omega) (by decide))
          refine va_iald hx hb hK hP 4 0 mw_4 rfl hi8 d_M_pass_84 ?_
          rw [show (nI i).toNatClampNeg = i from nI_clamp (by omega)]
          refine W.eq (g2 := F0 m 85 ls [.int (sw5 4 i), .int (sw5 7 i), .int (nI i), .ref (ad 7)]) rfl ?_
          refine lv_if_le (tgt := 107) hx hb d_M_pass_85 (by decide) (fun hc9 => ?_) (fun hc9 => ?_)
          · have he := he.trans (if_pos hc9)
            refine lv_iconst (v := 0) hx hb d_M_pass_107 (by decide) ?_
            refine lv_iadd hx hb d_M_pass_108 ?_
            have hi10 : vp_in (nI i) 8 := (vp_in_nI (by omega) (by decide))
            refine va_iast hx hb hK hP (mw_D hI) hS 7 0 mw_7 rfl hi10 d_M_pass_109 (fun H locs hP _ hS => ?_)
            rw [show (nI i).toNatClampNeg = i from nI_clamp (by omega)] at hP
            rw [mp_7] at hP
            generalize hw12 : wr sw5 7 i ((sw5 7 i) + 0) = sw11 at hP he
            have g0 : v2 = (-1) ∨ vp_in v2 8 := by exact g0
            refine W.eq (g2 := F0 m 110 ls []) rfl ?_
            refine lv_iinc (k := 3) (v := (nI (i + 1))) hx hb d_M_pass_110 hl rfl (by first | rfl | (rw [nI_succ]; rfl)) (by decide) rfl (fun ls hl => ?_)
            have hl : lv_has ls 4 [(3, .int (nI (i + 1))), (0, .ref (ad 0)), (1, .int p1), (2, .int v2)] := hl
            refine lv_goto (tgt := 42) hx hb d_M_pass_113 (by decide) ?_
            exact ih (i + 1) v2 sw11 H locs ls (by omega) (lv_sub hl [1, 2, 3, 0] rfl) hP hS (by first | with_reducible assumption | exact Or.inl rfl | exact (fun h9 => absurd h9 (by decide)) | exact (fun h9 => absurd rfl h9) | exact vi_runner _ | exact Or.inr (vp_in_nI (by omega) (by decide)) | exact Or.inr (by first | with_reducible assumption | exact vi_isIn7 (by with_reducible assumption) | exact vi_isThing (by with_reducible assumption) | exact vi_decl (by with_reducible assumption) | exact vi_ready (by with_reducible assumption) | exact vi_run (by with_reducible assumption) (by with_reducible assumption) | exact vi_run (by with_reducible assumption) (vi_runner _) | exact vi_mTask (by with_reducible assumption) | exact vi_mThing (by with_reducible assumption) | exact vi_mdecl (by with_reducible assumption) | exact vi_mready (by with_reducible assumption)) | exact (fun _ => ⟨(by first | with_reducible assumption | exact vi_isIn7 (by with_reducible assumption) | exact vi_isThing (by with_reducible assumption) | exact vi_decl (by with_reducible assumption) | exact vi_ready (by with_reducible assumption) | exact vi_run (by with_reducible assumption) (by with_reducible assumption) | exact vi_run (by with_reducible assumption) (vi_runner _) | exact vi_mTask (by with_reducible assumption) | exact vi_mThing (by with_reducible assumption) | exact vi_mdecl (by with_reducible assumption) | exact vi_mready (by with_reducible assumption)), (by first | with_reducible assumption | exact vi_isIn7 (by with_reducible assumption) | exact vi_isThing (by with_reducible assumption) | exact vi_decl (by with_reducible assumption) | exact vi_ready (by with_reducible assumption) | exact vi_run (by with_reducible assumption) (by with_reducible assumption) | exact vi_run (by with_reducible assumption) (vi_runner _) | exact vi_mTask (by with_reducible assumption) | exact vi_mThing (by with_reducible assumption) | exact vi_mdecl (by with_reducible assumption) | exact vi_mready (by with_reducible assumption))⟩) | exact (fun _ => ⟨vi_latest (by with_reducible assumption) (by with_reducible assumption), vi_run (by with_reducible assumption) (by with_reducible assumption)⟩) | exact (fun _ => (by with_reducible assumption : ¬ v4 = 0 → _) (by with_reducible assumption)) | exact (fun _ => (by first | with_reducible assumption | exact vi_isIn7 (by with_reducible assumption) | exact vi_isThing (by with_reducible assumption) | exact vi_decl (by with_reducible assumption) | exact vi_ready (by with_reducible assumption) | exact vi_run (by with_reducible assumption) (by with_reducible assumption) | exact vi_run (by with_reducible assumption) (vi_runner _) | exact vi_mTask (by with_reducible assumption) | exact vi_mThing (by with_reducible assumption) | exact vi_mdecl (by with_reducible assumption) | exact vi_mready (by with_reducible assumption))) | exact (by first | with_reducible assumption | exact vi_isIn7 (by with_reducible assumption) | exact vi_isThing (by with_reducible assumption) | exact vi_decl (by with_reducible assumption) | exact vi_ready (by with_reducible assumption) | exact vi_run (by with_reducible assumption) (by with_reducible assumption) | exact vi_run (by with_reducible assumption) (vi_runner _) | exact vi_mTask (by with_reducible assumption) | exact vi_mThing (by with_reducible assumption) | exact vi_mdecl (by with_reducible assumption) | exact vi_mready (by with_reducible assumption))) he
          · have he := he.trans (if_neg hc9)
            refine lv_aload_n hx hb d_M_pass_88 rfl (lv_at hl 0 rfl) ?_
            refine va_get (D := D) (ci := 4) (v := .ref (ad 1)) (C := R_M) (T := F_M) (N := 18) hx hb hts in_M hown hK hP 0 mw_0 rfl 4 (by decide) (hts _ k_438) (fun _ h9 => h9) rfl d_M_pass_89 ?_
            refine lv_iload_n hx hb d_M_pass_92 rfl (lv_at hl 3 rfl) ?_
            have hi13 : vp_in (nI i) 8 := (vp_in_nI (by omega) (by decide))
            refine va_iald hx hb hK hP 1 0 mw_1 rfl hi13 d_M_pass_93 ?_
            rw [show (nI i).toNatClampNeg = i from nI_clamp (by omega)]
            refine W.eq (g2 := F0 m 94 ls [.int (sw5 1 i), .int (sw5 7 i), .int (nI i), .ref (ad 7)]) rfl ?_
            refine lv_aload_n hx hb d_M_pass_94 rfl (lv_at hl 0 rfl) ?_
            refine va_get (D := D) (ci := 4) (v := .ref (ad 1)) (C := R_M) (T := F_M) (N := 18) hx hb hts in_M hown hK hP 0 mw_0 rfl 4 (by decide) (hts _ k_438) (fun _ h9 => h9) rfl d_M_pass_95 ?_
            refine lv_iload_n hx hb d_M_pass_98 rfl (lv_at hl 2 rfl) ?_
            have hi14 : vp_in v2 8 := (by first | with_reducible assumption | exact vi_isIn7 (by with_reducible assumption) | exact vi_isThing (by with_reducible assumption) | exact vi_decl (by with_reducible assumption) | exact vi_ready (by with_reducible assumption) | exact vi_run (by with_reducible assumption) (by with_reducible assumption) | exact vi_run (by with_reducible assumption) (vi_runner _) | exact vi_mTask (by with_reducible assumption) | exact vi_mThing (by with_reducible assumption) | exact vi_mdecl (by with_reducible assumption) | exact vi_mready (by with_reducible assumption))
            refine va_iald hx hb hK hP 1 0 mw_1 rfl hi14 d_M_pass_99 ?_
            refine W.eq (g2 := F0 m 100 ls [.int (sw5 1 v2.toNatClampNeg), .int (sw5 1 i), .int (sw5 7 i), .int (nI i), .ref (ad 7)]) rfl ?_
            refine lv_icmp_le (tgt := 107) hx hb d_M_pass_100 (by decide) (fun hc15 => ?_) (fun hc15 => ?_)
            · have he := he.trans (if_pos hc15)
              refine lv_iconst (v := 0) hx hb d_M_pass_107 (by decide) ?_
              refine lv_iadd hx hb d_M_pass_108 ?_
              have hi16 : vp_in (nI i) 8 := (vp_in_nI (by omega) (by decide))
              refine va_iast hx hb hK hP (mw_D hI) hS 7 0 mw_7 rfl hi16 d_M_pass_109 (fun H locs hP _ hS => ?_)
              rw [show (nI i).toNatClampNeg = i from nI_clamp (by omega)] at hP
              rw [mp_7] at hP
              generalize hw18 : wr sw5 7 i ((sw5 7 i) + 0) = sw17 at hP he
              have g0 : v2 = (-1) ∨ vp_in v2 8 := by exact g0
              refine W.eq (g2 := F0 m 110 ls []) rfl ?_
              refine lv_iinc (k := 3) (v := (nI (i + 1))) hx hb d_M_pass_110 hl rfl (by first | rfl | (rw [nI_succ]; rfl)) (by decide) rfl (fun ls hl => ?_)
              have hl : lv_has ls 4 [(3, .int (nI (i + 1))), (0, .ref (ad 0)), (1, .int p1), (2, .int v2)] := hl
              refine lv_goto (tgt := 42) hx hb d_M_pass_113 (by decide) ?_
              exact ih (i + 1) v2 sw17 H locs ls (by omega) (lv_sub hl [1, 2, 3, 0] rfl) hP hS (by first | with_reducible assumption | exact Or.inl rfl | exact (fun h9 => absurd h9 (by decide)) | exact (fun h9 => absurd rfl h9) | exact vi_runner _ | exact Or.inr (vp_in_nI (by omega) (by decide)) | exact Or.inr (by first | with_reducible assumption | exact vi_isIn7 (by with_reducible assumption) | exact vi_isThing (by with_reducible assumption) | exact vi_decl (by with_reducible assumption) | exact vi_ready (by with_reducible assumption) | exact vi_run (by with_reducible assumption) (by with_reducible assumption) | exact vi_run (by with_reducible assumption) (vi_runner _) | exact vi_mTask (by with_reducible assumption) | exact vi_mThing (by with_reducible assumption) | exact vi_mdecl (by with_reducible assumption) | exact vi_mready (by with_reducible assumption)) | exact (fun _ => ⟨(by first | with_reducible assumption | exact vi_isIn7 (by with_reducible assumption) | exact vi_isThing (by with_reducible assumption) | exact vi_decl (by with_reducible assumption) | exact vi_ready (by with_reducible assumption) | exact vi_run (by with_reducible assumption) (by with_reducible assumption) | exact vi_run (by with_reducible assumption) (vi_runner _) | exact vi_mTask (by with_reducible assumption) | exact vi_mThing (by with_reducible assumption) | exact vi_mdecl (by with_reducible assumption) | exact vi_mready (by with_reducible assumption)), (by first | with_reducible assumption | exact vi_isIn7 (by with_reducible assumption) | exact vi_isThing (by with_reducible assumption) | exact vi_decl (by with_reducible assumption) | exact vi_ready (by with_reducible assumption) | exact vi_run (by with_reducible assumption) (by with_reducible assumption) | exact vi_run (by with_reducible assumption) (vi_runner _) | exact vi_mTask (by with_reducible assumption) | exact vi_mThing (by with_reducible assumption) | exact vi_mdecl (by with_reducible assumption) | exact vi_mready (by with_reducible assumption))⟩) | exact (fun _ => ⟨vi_latest (by with_reducible assumption) (by with_reducible assumption), vi_run (by with_reducible assumption) (by with_reducible assumption)⟩) | exact (fun _ => (by with_reducible assumption : ¬ v4 = 0 → _) (by with_reducible assumption)) | exact (fun _ => (by first | with_reducible assumption | exact vi_isIn7 (by with_reducible assumption) | exact vi_isThing (by with_reducible assumption) | exact vi_decl (by with_reducible assumption) | exact vi_ready (by with_reducible assumption) | exact vi_run (by with_reducible assumption) (by with_reducible assumption) | exact vi_run (by with_reducible assumption) (vi_runner _) | exact vi_mTask (by with_reducible assumption) | exact vi_mThing (by with_reducible assumption) | exact vi_mdecl (by with_reducible assumption) | exact vi_mready (by with_reducible assumption))) | exact (by first | with_reducible assumption | exact vi_isIn7 (by with_reducible assumption) | exact vi_isThing (by with_reducible assumption) | exact vi_decl (by with_reducible assumption) | exact vi_ready (by with_reducible assumption) | exact vi_run (by with_reducible assumption) (by with_reducible assumption) | exact vi_run (by with_reducible assumption) (vi_runner _) | exact vi_mTask (by with_reducible assumption) | exact vi_mThing (by with_reducible assumption) | exact vi_mdecl (by with_reducible assumption) | exact vi_mready (by with_reducible assumption))) he
            · have he := he.trans (if_neg hc15)
              refine lv_iload_n hx hb d_M_pass_103 rfl (lv_at hl 1 rfl) ?_
              refine lv_goto (tgt := 108) hx hb d_M_pass_104 (by decide) ?_
              refine lv_iadd hx hb d_M_pass_108 ?_
              have hi19 : vp_in (nI i) 8 := (vp_in_nI (by omega) (by decide))
              refine va_iast hx hb hK hP (mw_D hI) hS 7 0 mw_7 rfl hi19 d_M_pass_109 (fun H locs hP _ hS => ?_)
              rw [show (nI i).toNatClampNeg = i from nI_clamp (by omega)] at hP
              rw [mp_7] at hP
              generalize hw21 : wr sw5 7 i ((sw5 7 i) + p1) = sw20 at hP he
              have g0 : v2 = (-1) ∨ vp_in v2 8 := by exact g0
              refine W.eq (g2 := F0 m 110 ls []) rfl ?_
              refine lv_iinc (k := 3) (v := (nI (i + 1))) hx hb d_M_pass_110 hl rfl (by first | rfl | (rw [nI_succ]; rfl)) (by decide) rfl (fun ls hl => ?_)
              have hl : lv_has ls 4 [(3, .int (nI (i + 1))), (0, .ref (ad 0)), (1, .int p1), (2, .int v2)] := hl
              refine lv_goto (tgt := 42) hx hb d_M_pass_113 (by decide) ?_
              exact ih (i + 1) v2 sw20 H locs ls (by omega) (lv_sub hl [1, 2, 3, 0] rfl) hP hS (by first | with_reducible assumption | exact Or.inl rfl | exact (fun h9 => absurd h9 (by decide)) | exact (fun h9 => absurd rfl h9) | exact vi_runner _ | exact Or.inr (vp_in_nI (by omega) (by decide)) | exact Or.inr (by first | with_reducible assumption | exact vi_isIn7 (by with_reducible assumption) | exact vi_isThing (by with_reducible assumption) | exact vi_decl (by with_reducible assumption) | exact vi_ready (by with_reducible assumption) | exact vi_run (by with_reducible assumption) (by with_reducible assumption) | exact vi_run (by with_reducible assumption) (vi_runner _) | exact vi_mTask (by with_reducible assumption) | exact vi_mThing (by with_reducible assumption) | exact vi_mdecl (by with_reducible assumption) | exact vi_mready (by with_reducible assumption)) | exact (fun _ => ⟨(by first | with_reducible assumption | exact vi_isIn7 (by with_reducible assumption) | exact vi_isThing (by with_reducible assumption) | exact vi_decl (by with_reducible assumption) | exact vi_ready (by with_reducible assumption) | exact vi_run (by with_reducible assumption) (by with_reducible assumption) | exact vi_run (by with_reducible assumption) (vi_runner _) | exact vi_mTask (by with_reducible assumption) | exact vi_mThing (by with_reducible assumption) | exact vi_mdecl (by with_reducible assumption) | exact vi_mready (by with_reducible assumption)), (by first | with_reducible assumption | exact vi_isIn7 (by with_reducible assumption) | exact vi_isThing (by with_reducible assumption) | exact vi_decl (by with_reducible assumption) | exact vi_ready (by with_reducible assumption) | exact vi_run (by with_reducible assumption) (by with_reducible assumption) | exact vi_run (by with_reducible assumption) (vi_runner _) | exact vi_mTask (by with_reducible assumption) | exact vi_mThing (by with_reducible assumption) | exact vi_mdecl (by with_reducible assumption) | exact vi_mready (by with_reducible assumption))⟩) | exact (fun _ => ⟨vi_latest (by with_reducible assumption) (by with_reducible assumption), vi_run (by with_reducible assumption) (by with_reducible assumption)⟩) | exact (fun _ => (by with_reducible assumption : ¬ v4 = 0 → _) (by with_reducible assumption)) | exact (fun _ => (by first | with_reducible assumption | exact vi_isIn7 (by with_reducible assumption) | exact vi_isThing (by with_reducible assumption) | exact vi_decl (by with_reducible assumption) | exact vi_ready (by with_reducible assumption) | exact vi_run (by with_reducible assumption) (by with_reducible assumption) | exact vi_run (by with_reducible assumption) (vi_runner _) | exact vi_mTask (by with_reducible assumption) | exact vi_mThing (by with_reducible assumption) | exact vi_mdecl (by with_reducible assumption) | exact vi_mready (by with_reducible assumption))) | exact (by first | with_reducible assumption | exact vi_isIn7 (by with_reducible assumption) | exact vi_isThing (by with_reducible assumption) | exact vi_decl (by with_reducible assumption) | exact vi_ready (by with_reducible assumption) | exact vi_run (by with_reducible assumption) (by with_reducible assumption) | exact vi_run (by with_reducible assumption) (vi_runner _) | exact vi_mTask (by with_reducible assumption) | exact vi_mThing (by with_reducible assumption) | exact vi_mdecl (by with_reducible assumption) | exact vi_mready (by with_reducible assumption))) he
        · have he := he.trans (if_pos hc3)
          refine lv_iload_n hx hb d_M_pass_65 rfl (lv_at hl 1 rfl) ?_
          refine lv_goto (tgt := 70) hx hb d_M_pass_66 (by decide) ?_
          refine lv_iadd hx hb d_M_pass_70 ?_
          have hi22 : vp_in (nI i) 8 := (vp_in_nI (by omega) (by decide))
          refine va_iast hx hb hK hP (mw_D hI) hS 6 0 mw_6 rfl hi22 d_M_pass_71 (fun H locs hP _ hS => ?_)
          rw [show (nI i).toNatClampNeg = i from nI_clamp (by omega)] at hP
          rw [mp_6] at hP
          generalize hw24 : wr sl 6 i ((sl 6 i) + p1) = sw23 at hP he
          have g0 : v2 = (-1) ∨ vp_in v2 8 := by exact g0
          refine W.eq (g2 := F0 m 72 ls []) rfl ?_
          refine lv_aload_n hx hb d_M_pass_72 rfl (lv_at hl 0 rfl) ?_
          refine va_get (D := D) (ci := 4) (v := .ref (ad 7)) (C := R_M) (T := F_M) (N := 18) hx hb hts in_M hown hK hP 0 mw_0 rfl 10 (by decide) (hts _ k_444) (fun _ h9 => h9) rfl d_M_pass_73 ?_
          refine lv_iload_n hx hb d_M_pass_76 rfl (lv_at hl 3 rfl) ?_
          refine lv_dup2_11 hx hb d_M_pass_77 rfl rfl ?_
          have hi25 : vp_in (nI i) 8 := (vp_in_nI (by omega) (by decide))
          refine va_iald hx hb hK hP 7 0 mw_7 rfl hi25 d_M_pass_78 ?_
          rw [show (nI i).toNatClampNeg = i from nI_clamp (by omega)]
          refine W.eq (g2 := F0 m 79 ls [.int (sw23 7 i), .int (nI i), .ref (ad 7)]) rfl ?_
          refine lv_aload_n hx hb d_M_pass_79 rfl (lv_at hl 0 rfl) ?_
          refine va_get (D := D) (ci := 4) (v := .ref (ad 4)) (C := R_M) (T := F_M) (N := 18) hx hb hts in_M hown hK hP 0 mw_0 rfl 7 (by decide) (hts _ k_441) (fun _ h9 => h9) rfl d_M_pass_80 ?_
          refine lv_iload_n hx hb d_M_pass_83 rfl (lv_at hl 3 rfl) ?_
          have hi26 : vp_in (nI i) 8 := (vp_in_nI (by omega) (by decide))
          refine va_iald hx hb hK hP 4 0 mw_4 rfl hi26 d_M_pass_84 ?_
          rw [show (nI i).toNatClampNeg = i from nI_clamp (by omega)]
          refine W.eq (g2 := F0 m 85 ls [.int (sw23 4 i), .int (sw23 7 i), .int (nI i), .ref (ad 7)]) rfl ?_
          refine lv_if_le (tgt := 107) hx hb d_M_pass_85 (by decide) (fun hc27 => ?_) (fun hc27 => ?_)
          · have he := he.trans (if_pos hc27)
            refine lv_iconst (v := 0) hx hb d_M_pass_107 (by decide) ?_
            refine lv_iadd hx hb d_M_pass_108 ?_
            have hi28 : vp_in (nI i) 8 := (vp_in_nI (by omega) (by decide))
            refine va_iast hx hb hK hP (mw_D hI) hS 7 0 mw_7 rfl hi28 d_M_pass_109 (fun H locs hP _ hS => ?_)
            rw [show (nI i).toNatClampNeg = i from nI_clamp (by omega)] at hP
            rw [mp_7] at hP
            generalize hw30 : wr sw23 7 i ((sw23 7 i) + 0) = sw29 at hP he
            have g0 : v2 = (-1) ∨ vp_in v2 8 := by exact g0
            refine W.eq (g2 := F0 m 110 ls []) rfl ?_
            refine lv_iinc (k := 3) (v := (nI (i + 1))) hx hb d_M_pass_110 hl rfl (by first | rfl | (rw [nI_succ]; rfl)) (by decide) rfl (fun ls hl => ?_)
            have hl : lv_has ls 4 [(3, .int (nI (i + 1))), (0, .ref (ad 0)), (1, .int p1), (2, .int v2)] := hl
            refine lv_goto (tgt := 42) hx hb d_M_pass_113 (by decide) ?_
            exact ih (i + 1) v2 sw29 H locs ls (by omega) (lv_sub hl [1, 2, 3, 0] rfl) hP hS (by first | with_reducible assumption | exact Or.inl rfl | exact (fun h9 => absurd h9 (by decide)) | exact (fun h9 => absurd rfl h9) | exact vi_runner _ | exact Or.inr (vp_in_nI (by omega) (by decide)) | exact Or.inr (by first | with_reducible assumption | exact vi_isIn7 (by with_reducible assumption) | exact vi_isThing (by with_reducible assumption) | exact vi_decl (by with_reducible assumption) | exact vi_ready (by with_reducible assumption) | exact vi_run (by with_reducible assumption) (by with_reducible assumption) | exact vi_run (by with_reducible assumption) (vi_runner _) | exact vi_mTask (by with_reducible assumption) | exact vi_mThing (by with_reducible assumption) | exact vi_mdecl (by with_reducible assumption) | exact vi_mready (by with_reducible assumption)) | exact (fun _ => ⟨(by first | with_reducible assumption | exact vi_isIn7 (by with_reducible assumption) | exact vi_isThing (by with_reducible assumption) | exact vi_decl (by with_reducible assumption) | exact vi_ready (by with_reducible assumption) | exact vi_run (by with_reducible assumption) (by with_reducible assumption) | exact vi_run (by with_reducible assumption) (vi_runner _) | exact vi_mTask (by with_reducible assumption) | exact vi_mThing (by with_reducible assumption) | exact vi_mdecl (by with_reducible assumption) | exact vi_mready (by with_reducible assumption)), (by first | with_reducible assumption | exact vi_isIn7 (by with_reducible assumption) | exact vi_isThing (by with_reducible assumption) | exact vi_decl (by with_reducible assumption) | exact vi_ready (by with_reducible assumption) | exact vi_run (by with_reducible assumption) (by with_reducible assumption) | exact vi_run (by with_reducible assumption) (vi_runner _) | exact vi_mTask (by with_reducible assumption) | exact vi_mThing (by with_reducible assumption) | exact vi_mdecl (by with_reducible assumption) | exact vi_mready (by with_reducible assumption))⟩) | exact (fun _ => ⟨vi_latest (by with_reducible assumption) (by with_reducible assumption), vi_run (by with_reducible assumption) (by with_reducible assumption)⟩) | exact (fun _ => (by with_reducible assumption : ¬ v4 = 0 → _) (by with_reducible assumption)) | exact (fun _ => (by first | with_reducible assumption | exact vi_isIn7 (by with_reducible assumption) | exact vi_isThing (by with_reducible assumption) | exact vi_decl (by with_reducible assumption) | exact vi_ready (by with_reducible assumption) | exact vi_run (by with_reducible assumption) (by with_reducible assumption) | exact vi_run (by with_reducible assumption) (vi_runner _) | exact vi_mTask (by with_reducible assumption) | exact vi_mThing (by with_reducible assumption) | exact vi_mdecl (by with_reducible assumption) | exact vi_mready (by with_reducible assumption))) | exact (by first | with_reducible assumption | exact vi_isIn7 (by with_reducible assumption) | exact vi_isThing (by with_reducible assumption) | exact vi_decl (by with_reducible assumption) | exact vi_ready (by with_reducible assumption) | exact vi_run (by with_reducible assumption) (by with_reducible assumption) | exact vi_run (by with_reducible assumption) (vi_runner _) | exact vi_mTask (by with_reducible assumption) | exact vi_mThing (by with_reducible assumption) | exact vi_mdecl (by with_reducible assumption) | exact vi_mready (by with_reducible assumption))) he
          · have he := he.trans (if_neg hc27)
            refine lv_aload_n hx hb d_M_pass_88 rfl (lv_at hl 0 rfl) ?_
            refine va_get (D := D) (ci := 4) (v := .ref (ad 1)) (C := R_M) (T := F_M) (N := 18) hx hb hts in_M hown hK hP 0 mw_0 rfl 4 (by decide) (hts _ k_438) (fun _ h9 => h9) rfl d_M_pass_89 ?_
            refine lv_iload_n hx hb d_M_pass_92 rfl (lv_at hl 3 rfl) ?_
            have hi31 : vp_in (nI i) 8 := (vp_in_nI (by omega) (by decide))
            refine va_iald hx hb hK hP 1 0 mw_1 rfl hi31 d_M_pass_93 ?_
            rw [show (nI i).toNatClampNeg = i from nI_clamp (by omega)]
            refine W.eq (g2 := F0 m 94 ls [.int (sw23 1 i), .int (sw23 7 i), .int (nI i), .ref (ad 7)]) rfl ?_
            refine lv_aload_n hx hb d_M_pass_94 rfl (lv_at hl 0 rfl) ?_
            refine va_get (D := D) (ci := 4) (v := .ref (ad 1)) (C := R_M) (T := F_M) (N := 18) hx hb hts in_M hown hK hP 0 mw_0 rfl 4 (by decide) (hts _ k_438) (fun _ h9 => h9) rfl d_M_pass_95 ?_
            refine lv_iload_n hx hb d_M_pass_98 rfl (lv_at hl 2 rfl) ?_
            have hi32 : vp_in v2 8 := (by first | with_reducible assumption | exact vi_isIn7 (by with_reducible assumption) | exact vi_isThing (by with_reducible assumption) | exact vi_decl (by with_reducible assumption) | exact vi_ready (by with_reducible assumption) | exact vi_run (by with_reducible assumption) (by with_reducible assumption) | exact vi_run (by with_reducible assumption) (vi_runner _) | exact vi_mTask (by with_reducible assumption) | exact vi_mThing (by with_reducible assumption) | exact vi_mdecl (by with_reducible assumption) | exact vi_mready (by with_reducible assumption))
            refine va_iald hx hb hK hP 1 0 mw_1 rfl hi32 d_M_pass_99 ?_
            refine W.eq (g2 := F0 m 100 ls [.int (sw23 1 v2.toNatClampNeg), .int (sw23 1 i), .int (sw23 7 i), .int (nI i), .ref (ad 7)]) rfl ?_
            refine lv_icmp_le (tgt := 107) hx hb d_M_pass_100 (by decide) (fun hc33 => ?_) (fun hc33 => ?_)
            · have he := he.trans (if_pos hc33)
              refine lv_iconst (v := 0) hx hb d_M_pass_107 (by decide) ?_
              refine lv_iadd hx hb d_M_pass_108 ?_
              have hi34 : vp_in (nI i) 8 := (vp_in_nI (by omega) (by decide))
              refine va_iast hx hb hK hP (mw_D hI) hS 7 0 mw_7 rfl hi34 d_M_pass_109 (fun H locs hP _ hS => ?_)
              rw [show (nI i).toNatClampNeg = i from nI_clamp (by omega)] at hP
              rw [mp_7] at hP
              generalize hw36 : wr sw23 7 i ((sw23 7 i) + 0) = sw35 at hP he
              have g0 : v2 = (-1) ∨ vp_in v2 8 := by exact g0
              refine W.eq (g2 := F0 m 110 ls []) rfl ?_
              refine lv_iinc (k := 3) (v := (nI (i + 1))) hx hb d_M_pass_110 hl rfl (by first | rfl | (rw [nI_succ]; rfl)) (by decide) rfl (fun ls hl => ?_)
              have hl : lv_has ls 4 [(3, .int (nI (i + 1))), (0, .ref (ad 0)), (1, .int p1), (2, .int v2)] := hl
              refine lv_goto (tgt := 42) hx hb d_M_pass_113 (by decide) ?_
              exact ih (i + 1) v2 sw35 H locs ls (by omega) (lv_sub hl [1, 2, 3, 0] rfl) hP hS (by first | with_reducible assumption | exact Or.inl rfl | exact (fun h9 => absurd h9 (by decide)) | exact (fun h9 => absurd rfl h9) | exact vi_runner _ | exact Or.inr (vp_in_nI (by omega) (by decide)) | exact Or.inr (by first | with_reducible assumption | exact vi_isIn7 (by with_reducible assumption) | exact vi_isThing (by with_reducible assumption) | exact vi_decl (by with_reducible assumption) | exact vi_ready (by with_reducible assumption) | exact vi_run (by with_reducible assumption) (by with_reducible assumption) | exact vi_run (by with_reducible assumption) (vi_runner _) | exact vi_mTask (by with_reducible assumption) | exact vi_mThing (by with_reducible assumption) | exact vi_mdecl (by with_reducible assumption) | exact vi_mready (by with_reducible assumption)) | exact (fun _ => ⟨(by first | with_reducible assumption | exact vi_isIn7 (by with_reducible assumption) | exact vi_isThing (by with_reducible assumption) | exact vi_decl (by with_reducible assumption) | exact vi_ready (by with_reducible assumption) | exact vi_run (by with_reducible assumption) (by with_reducible assumption) | exact vi_run (by with_reducible assumption) (vi_runner _) | exact vi_mTask (by with_reducible assumption) | exact vi_mThing (by with_reducible assumption) | exact vi_mdecl (by with_reducible assumption) | exact vi_mready (by with_reducible assumption)), (by first | with_reducible assumption | exact vi_isIn7 (by with_reducible assumption) | exact vi_isThing (by with_reducible assumption) | exact vi_decl (by with_reducible assumption) | exact vi_ready (by with_reducible assumption) | exact vi_run (by with_reducible assumption) (by with_reducible assumption) | exact vi_run (by with_reducible assumption) (vi_runner _) | exact vi_mTask (by with_reducible assumption) | exact vi_mThing (by with_reducible assumption) | exact vi_mdecl (by with_reducible assumption) | exact vi_mready (by with_reducible assumption))⟩) | exact (fun _ => ⟨vi_latest (by with_reducible assumption) (by with_reducible assumption), vi_run (by with_reducible assumption) (by with_reducible assumption)⟩) | exact (fun _ => (by with_reducible assumption : ¬ v4 = 0 → _) (by with_reducible assumption)) | exact (fun _ => (by first | with_reducible assumption | exact vi_isIn7 (by with_reducible assumption) | exact vi_isThing (by with_reducible assumption) | exact vi_decl (by with_reducible assumption) | exact vi_ready (by with_reducible assumption) | exact vi_run (by with_reducible assumption) (by with_reducible assumption) | exact vi_run (by with_reducible assumption) (vi_runner _) | exact vi_mTask (by with_reducible assumption) | exact vi_mThing (by with_reducible assumption) | exact vi_mdecl (by with_reducible assumption) | exact vi_mready (by with_reducible assumption))) | exact (by first | with_reducible assumption | exact vi_isIn7 (by with_reducible assumption) | exact vi_isThing (by with_reducible assumption) | exact vi_decl (by with_reducible assumption) | exact vi_ready (by with_reducible assumption) | exact vi_run (by with_reducible assumption) (by with_reducible assumption) | exact vi_run (by with_reducible assumption) (vi_runner _) | exact vi_mTask (by with_reducible assumption) | exact vi_mThing (by with_reducible assumption) | exact vi_mdecl (by with_reducible assumption) | exact vi_mready (by with_reducible assumption))) he
            · have he := he.trans (if_neg hc33)
              refine lv_iload_n hx hb d_M_pass_103 rfl (lv_at hl 1 rfl) ?_
              refine lv_goto (tgt := 108) hx hb d_M_pass_104 (by decide) ?_
              refine lv_iadd hx hb d_M_pass_108 ?_
              have hi37 : vp_in (nI i) 8 := (vp_in_nI (by omega) (by decide))
              refine va_iast hx hb hK hP (mw_D hI) hS 7 0 mw_7 rfl hi37 d_M_pass_109 (fun H locs hP _ hS => ?_)
              rw [show (nI i).toNatClampNeg = i from nI_clamp (by omega)] at hP
              rw [mp_7] at hP
              generalize hw39 : wr sw23 7 i ((sw23 7 i) + p1) = sw38 at hP he
              have g0 : v2 = (-1) ∨ vp_in v2 8 := by exact g0
              refine W.eq (g2 := F0 m 110 ls []) rfl ?_
              refine lv_iinc (k := 3) (v := (nI (i + 1))) hx hb d_M_pass_110 hl rfl (by first | rfl | (rw [nI_succ]; rfl)) (by decide) rfl (fun ls hl => ?_)
              have hl : lv_has ls 4 [(3, .int (nI (i + 1))), (0, .ref (ad 0)), (1, .int p1), (2, .int v2)] := hl
              refine lv_goto (tgt := 42) hx hb d_M_pass_113 (by decide) ?_
              exact ih (i + 1) v2 sw38 H locs ls (by omega) (lv_sub hl [1, 2, 3, 0] rfl) hP hS (by first | with_reducible assumption | exact Or.inl rfl | exact (fun h9 => absurd h9 (by decide)) | exact (fun h9 => absurd rfl h9) | exact vi_runner _ | exact Or.inr (vp_in_nI (by omega) (by decide)) | exact Or.inr (by first | with_reducible assumption | exact vi_isIn7 (by with_reducible assumption) | exact vi_isThing (by with_reducible assumption) | exact vi_decl (by with_reducible assumption) | exact vi_ready (by with_reducible assumption) | exact vi_run (by with_reducible assumption) (by with_reducible assumption) | exact vi_run (by with_reducible assumption) (vi_runner _) | exact vi_mTask (by with_reducible assumption) | exact vi_mThing (by with_reducible assumption) | exact vi_mdecl (by with_reducible assumption) | exact vi_mready (by with_reducible assumption)) | exact (fun _ => ⟨(by first | with_reducible assumption | exact vi_isIn7 (by with_reducible assumption) | exact vi_isThing (by with_reducible assumption) | exact vi_decl (by with_reducible assumption) | exact vi_ready (by with_reducible assumption) | exact vi_run (by with_reducible assumption) (by with_reducible assumption) | exact vi_run (by with_reducible assumption) (vi_runner _) | exact vi_mTask (by with_reducible assumption) | exact vi_mThing (by with_reducible assumption) | exact vi_mdecl (by with_reducible assumption) | exact vi_mready (by with_reducible assumption)), (by first | with_reducible assumption | exact vi_isIn7 (by with_reducible assumption) | exact vi_isThing (by with_reducible assumption) | exact vi_decl (by with_reducible assumption) | exact vi_ready (by with_reducible assumption) | exact vi_run (by with_reducible assumption) (by with_reducible assumption) | exact vi_run (by with_reducible assumption) (vi_runner _) | exact vi_mTask (by with_reducible assumption) | exact vi_mThing (by with_reducible assumption) | exact vi_mdecl (by with_reducible assumption) | exact vi_mready (by with_reducible assumption))⟩) | exact (fun _ => ⟨vi_latest (by with_reducible assumption) (by with_reducible assumption), vi_run (by with_reducible assumption) (by with_reducible assumption)⟩) | exact (fun _ => (by with_reducible assumption : ¬ v4 = 0 → _) (by with_reducible assumption)) | exact (fun _ => (by first | with_reducible assumption | exact vi_isIn7 (by with_reducible assumption) | exact vi_isThing (by with_reducible assumption) | exact vi_decl (by with_reducible assumption) | exact vi_ready (by with_reducible assumption) | exact vi_run (by with_reducible assumption) (by with_reducible assumption) | exact vi_run (by with_reducible assumption) (vi_runner _) | exact vi_mTask (by with_reducible assumption) | exact vi_mThing (by with_reducible assumption) | exact vi_mdecl (by with_reducible assumption) | exact vi_mready (by with_reducible assumption))) | exact (by first | with_reducible assumption | exact vi_isIn7 (by with_reducible assumption) | exact vi_isThing (by with_reducible assumption) | exact vi_decl (by with_reducible assumption) | exact vi_ready (by with_reducible assumption) | exact vi_run (by with_reducible assumption) (by with_reducible assumption) | exact vi_run (by with_reducible assumption) (vi_runner _) | exact vi_mTask (by with_reducible assumption) | exact vi_mThing (by with_reducible assumption) | exact vi_mdecl (by with_reducible assumption) | exact vi_mready (by with_reducible assumption))) he
  have J16 : ∀ (x1 : Int32) (sl : St) (H : Heap) (locs : List Loc) (ls : Array Slot), lv_has ls 4 [(0, .ref (ad 0)), (1, .int p1)] → va_P D cls9 (mw cI ad sl) H → va_S (inA ad 13) s.heap H locs → f_M_pass st p1 = f_M_pass_B16 sl x1 p1 → W p l e (headSpec w_M_pass { frames := 2, cells := 0, slots := 0, locals := 44 }).room s m [.ref (ad 0), .int p1].toArray below meth c H locs 0 0 (MQ below (qI D (f_M_pass st p1).1 (mw cI ad ((f_M_pass st p1).2)) (inA ad 13)) [.ref (ad 0), .int p1].toArray s 0 0 (inA ad 13)) (F0 m 16 ls [.int x1, .ref (ad 0)]) := by
    intro x1 sl H locs ls hl hP hS he
    rw [f_M_pass_B16] at he
    refine lv_iconst (v := 0) hx hb d_M_pass_16 (by decide) ?_
    refine wcI (As := [.int x1, .int 0]) (rest := []) (na := 2) (c_M_refuses l D cI cT cH ad sl x1 0 hI) ⟨hx, hb, hml, hown, hts⟩ k_504 k_506 k_13 k_28 k_507 (by decide +kernel) (by decide) (by decide) hP hK hN (q0 := 0) (ci := 4) mw_0 rfl hS rfl hl.1 rfl (Nat.le_of_ble_eq_true rfl) d_M_pass_17 (fun H locs hP hS => ?_)
    generalize hw41 : (f_M_refuses sl x1 0).2 = sw40 at hP he
    refine W.eq (g2 := F0 m 20 ls [.int ((f_M_refuses sl x1 0).1)]) rfl ?_
    rw [f_M_pass_S20] at he
    refine lv_if_eq (tgt := 25) hx hb d_M_pass_20 (by decide) (fun hc42 => ?_) (fun hc42 => ?_)
    · have he := he.trans (if_pos hc42)
      refine lv_aload_n hx hb d_M_pass_25 rfl (lv_at hl 0 rfl) ?_
      refine rdV (As := []) (rest := []) (na := 0) (c_M_runner l D cI cT cH ad sw40  ) ⟨hx, hb, hml, hown, hts⟩ k_527 k_529 k_15 k_28 k_530 (by decide +kernel) (by decide) (by decide) hP hK hN (q0 := 0) (ci := 4) mw_0 rfl rfl hl.1 rfl (Nat.le_of_ble_eq_true rfl) d_M_pass_26 ?_
      refine lv_istore_n hx hb d_M_pass_29 rfl hl (by decide) rfl (fun ls hl => ?_)
      have hl : lv_has ls 4 [(2, .int (f_M_runner sw40)), (0, .ref (ad 0)), (1, .int p1)] := hl
      refine lv_aload_n hx hb d_M_pass_30 rfl (lv_at hl 1 rfl) ?_
      refine lv_dup hx hb d_M_pass_31 rfl ?_
      refine va_get (D := D) (ci := 4) (v := .int (sw40 0 2)) (C := R_M) (T := F_M) (N := 18) hx hb hts in_M hown hK hP 0 mw_0 rfl 2 (by decide) (hts _ k_436) (fun _ h9 => h9) rfl d_M_pass_32 ?_
      refine lv_iload_n hx hb d_M_pass_35 rfl (lv_at hl 2 rfl) ?_
      refine lv_iadd hx hb d_M_pass_36 ?_
      refine va_put (D := D) (ci := 4) (v := .int ((sw40 0 2) + p1)) (ty := .int) (C := R_M) (T := F_M) (N := 18) hx hb hts in_M ft_M ft_M_ok n_M hown hK hP (mw_D hI) hS 0 mw_0 rfl 2 (by decide) (hts _ k_436) (fun _ h9 => h9) rfl (by decide +kernel) rfl rfl (Nat.le_of_ble_eq_true rfl) d_M_pass_37 (fun H locs hP _ hS => ?_)
      rw [mp_0 (k := 2) (by decide)] at hP
      generalize hw44 : wr sw40 0 2 ((sw40 0 2) + p1) = sw43 at hP he
      refine W.eq (g2 := F0 m 40 ls []) rfl ?_
      rw [f_M_pass_S40] at he
      refine lv_iconst (v := 0) hx hb d_M_pass_40 (by decide) ?_
      refine lv_istore_n hx hb d_M_pass_41 rfl hl (by decide) rfl (fun ls hl => ?_)
      have hl : lv_has ls 4 [(3, .int 0), (2, .int (f_M_runner sw40)), (0, .ref (ad 0)), (1, .int p1)] := hl
      exact L42 8 0 (f_M_runner sw40) sw43 H locs ls (by first | decide | omega) (lv_sub hl [2, 3, 1, 0] rfl) hP hS (by first | with_reducible assumption | exact Or.inl rfl | exact (fun h9 => absurd h9 (by decide)) | exact (fun h9 => absurd rfl h9) | exact vi_runner _ | exact Or.inr (vp_in_nI (by omega) (by decide)) | exact Or.inr (by first | with_reducible assumption | exact vi_isIn7 (by with_reducible assumption) | exact vi_isThing (by with_reducible assumption) | exact vi_decl (by with_reducible assumption) | exact vi_ready (by with_reducible assumption) | exact vi_run (by with_reducible assumption) (by with_reducible assumption) | exact vi_run (by with_reducible assumption) (vi_runner _) | exact vi_mTask (by with_reducible assumption) | exact vi_mThing (by with_reducible assumption) | exact vi_mdecl (by with_reducible assumption) | exact vi_mready (by with_reducible assumption)) | exact (fun _ => ⟨(by first | with_reducible assumption | exact vi_isIn7 (by with_reducible assumption) | exact vi_isThing (by with_reducible assumption) | exact vi_decl (by with_reducible assumption) | exact vi_ready (by with_reducible assumption) | exact vi_run (by with_reducible assumption) (by with_reducible assumption) | exact vi_run (by with_reducible assumption) (vi_runner _) | exact vi_mTask (by with_reducible assumption) | exact vi_mThing (by with_reducible assumption) | exact vi_mdecl (by with_reducible assumption) | exact vi_mready (by with_reducible assumption)), (by first | with_reducible assumption | exact vi_isIn7 (by with_reducible assumption) | exact vi_isThing (by with_reducible assumption) | exact vi_decl (by with_reducible assumption) | exact vi_ready (by with_reducible assumption) | exact vi_run (by with_reducible assumption) (by with_reducible assumption) | exact vi_run (by with_reducible assumption) (vi_runner _) | exact vi_mTask (by with_reducible assumption) | exact vi_mThing (by with_reducible assumption) | exact vi_mdecl (by with_reducible assumption) | exact vi_mready (by with_reducible assumption))⟩) | exact (fun _ => ⟨vi_latest (by with_reducible assumption) (by with_reducible assumption), vi_run (by with_reducible assumption) (by with_reducible assumption)⟩) | exact (fun _ => (by with_reducible assumption : ¬ v4 = 0 → _) (by with_reducible assumption)) | exact (fun _ => (by first | with_reducible assumption | exact vi_isIn7 (by with_reducible assumption) | exact vi_isThing (by with_reducible assumption) | exact vi_decl (by with_reducible assumption) | exact vi_ready (by with_reducible assumption) | exact vi_run (by with_reducible assumption) (by with_reducible assumption) | exact vi_run (by with_reducible assumption) (vi_runner _) | exact vi_mTask (by with_reducible assumption) | exact vi_mThing (by with_reducible assumption) | exact vi_mdecl (by with_reducible assumption) | exact vi_mready (by with_reducible assumption))) | exact (by first | with_reducible assumption | exact vi_isIn7 (by with_reducible assumption) | exact vi_isThing (by with_reducible assumption) | exact vi_decl (by with_reducible assumption) | exact vi_ready (by with_reducible assumption) | exact vi_run (by with_reducible assumption) (by with_reducible assumption) | exact vi_run (by with_reducible assumption) (vi_runner _) | exact vi_mTask (by with_reducible assumption) | exact vi_mThing (by with_reducible assumption) | exact vi_mdecl (by with_reducible assumption) | exact vi_mready (by with_reducible assumption))) he
    · have he := he.trans (if_neg hc42)
      refine lv_iconst (v := 0) hx hb d_M_pass_23 (by decide) ?_
      exact W.iret (v := 0) hx hb hr (fun t ht _ => ⟨⟨0, (), rfl, by rw [he], (by rw [he]; show va_P _ _ _ t.heap; rw [ht]; exact hP)⟩, hS.F ht⟩) hS.2.2 d_M_pass_24
  have J11 : ∀ (sl : St) (H : Heap) (locs : List Loc) (ls : Array Slot), lv_has ls 4 [(0, .ref (ad 0)), (1, .int p1)] → va_P D cls9 (mw cI ad sl) H → va_S (inA ad 13) s.heap H locs → f_M_pass st p1 = f_M_pass_B11 sl p1 → W p l e (headSpec w_M_pass { frames := 2, cells := 0, slots := 0, locals := 44 }).room s m [.ref (ad 0), .int p1].toArray below meth c H locs 0 0 (MQ below (qI D (f_M_pass st p1).1 (mw cI ad ((f_M_pass st p1).2)) (inA ad 13)) [.ref (ad 0), .int p1].toArray s 0 0 (inA ad 13)) (F0 m 11 ls [.ref (ad 0)]) := by
    intro sl H locs ls hl hP hS he
    rw [f_M_pass_B11] at he
    refine lv_iconst (v := 1) hx hb d_M_pass_11 (by decide) ?_
    refine lv_goto (tgt := 16) hx hb d_M_pass_12 (by decide) ?_
    exact J16 1 sl H locs ls (lv_sub hl [0, 1] rfl) hP hS he
  have he := f_M_pass.eq_1 st p1
  refine lv_aload_n hx hb d_M_pass_0 rfl (lv_at hl 0 rfl) ?_
  refine lv_iload_n hx hb d_M_pass_1 rfl (lv_at hl 1 rfl) ?_
  refine lv_if_lt (tgt := 11) hx hb d_M_pass_2 (by decide) (fun hc45 => ?_) (fun hc45 => ?_)
  · have he := he.trans (if_pos hc45)
    exact J11 st s.heap [] ls (lv_sub hl [0, 1] rfl) hP hS he
  · have he := he.trans (if_neg hc45)
    refine lv_iload_n hx hb d_M_pass_5 rfl (lv_at hl 1 rfl) ?_
    refine lv_bipush (v := 100) hx hb d_M_pass_6 (by decide) ?_
    refine lv_icmp_le (tgt := 15) hx hb d_M_pass_8 (by decide) (fun hc46 => ?_) (fun hc46 => ?_)
    · have he := he.trans (if_pos hc46)
      refine lv_iconst (v := 0) hx hb d_M_pass_15 (by decide) ?_
      exact J16 0 st s.heap [] ls (lv_sub hl [0, 1] rfl) hP hS he
    · have he := he.trans (if_neg hc46)
      exact J11 st s.heap [] ls (lv_sub hl [0, 1] rfl) hP hS he
set_option maxHeartbeats 4000000 in
set_option maxRecDepth 100000 in
theorem c_M_running (l : Launch) (D : va_G) (cI cT cH : ClassId) (ad : Nat → Nat) (st : St) (hI : ∀ i j, i < 13 → j < 13 → ad i = ad j → i = j) : Met l y_M_running w_M_running { frames := 2, cells := 0, slots := 0, locals := 44 } (va_Pc [.ref (ad 0)] (gW D cI cT cH (mw cI ad st))) (qI D (f_M_running st).1 (mw cI ad ((f_M_running st).2)) (inA ad 13)) 0 0 (inA ad 13) := by
  refine Met.ofW (cc := b_M_running) (maxL := 1) (ret := (some .int)) (by decide +kernel) rfl ?_
  intro p e s m args below meth c s₁ B hml hv
  obtain ⟨rfl, hP, hK, hN⟩ := hv
  have hx := B.exec
  have hb := B.bytes
  have hr := B.returns
  have hlocks := B.notSynchronized
  have hts0 := atoms_spec (ws := w_M_running) B.pre
  have hts : ∀ w ∈ TT, w.before [.ref (ad 0)].toArray s = true := fun w h => hts0 w (List.mem_cons_of_mem _ h)
  have hown : s.vm.findClass R_M = some m.cls := findClass_of_methodNamed B.named
  have hS : va_S (inA ad 13) s.heap s.heap [] := va_S.rf
  have hl := lv_entry ([.ref (ad 0)]) (n := 1) (Nat.le_of_ble_eq_true rfl)
  rw [lg_entry_eq]
  generalize (lg_sl ([.ref (ad 0)]) ++ List.replicate (1 - (lg_sl ([.ref (ad 0)])).length) Slot.unset).toArray = ls at hl ⊢
  have hl : lv_has ls 1 [(0, .ref (ad 0))] := hl
  have he := f_M_running.eq_1 st
  refine lv_aload_n hx hb d_M_running_0 rfl (lv_at hl 0 rfl) ?_
  refine lv_iconst (v := 0) hx hb d_M_running_1 (by decide) ?_
  refine va_put (D := D) (ci := 4) (v := .int 0) (ty := .int) (C := R_M) (T := F_M) (N := 18) hx hb hts in_M ft_M ft_M_ok n_M hown hK hP (mw_D hI) hS 0 mw_0 rfl 0 (by decide) (hts _ k_434) (fun _ h9 => h9) rfl (by decide +kernel) rfl rfl (Nat.le_of_ble_eq_true rfl) d_M_running_2 (fun H locs hP _ hS => ?_)
  rw [mp_0 (k := 0) (by decide)] at hP
  generalize hw2 : wr st 0 0 0 = sw1 at hP he
  refine W.eq (g2 := F0 m 5 ls []) rfl ?_
  rw [f_M_running_S5] at he
  refine lv_aload_n hx hb d_M_running_5 rfl (lv_at hl 0 rfl) ?_
  refine rdV (As := []) (rest := []) (na := 0) (c_M_runner l D cI cT cH ad sw1  ) ⟨hx, hb, hml, hown, hts⟩ k_527 k_529 k_15 k_28 k_530 (by decide +kernel) (by decide) (by decide) hP hK hN (q0 := 0) (ci := 4) mw_0 rfl rfl hl.1 rfl (Nat.le_of_ble_eq_true rfl) d_M_running_6 ?_
  exact W.iret (v := (f_M_runner sw1)) hx hb hr (fun t ht _ => ⟨⟨(f_M_runner sw1), (), rfl, by rw [he], (by rw [he]; show va_P _ _ _ t.heap; rw [ht]; exact hP)⟩, hS.F ht⟩) hS.2.2 d_M_running_9
set_option maxHeartbeats 4000000 in
set_option maxRecDepth 100000 in
theorem c_M_priority (l : Launch) (D : va_G) (cI cT cH : ClassId) (ad : Nat → Nat) (st : St) (p1 : Int32) (hI : ∀ i j, i < 13 → j < 13 → ad i = ad j → i = j) : Met l y_M_priority w_M_priority { frames := 2, cells := 0, slots := 0, locals := 41 } (va_Pc [.ref (ad 0), .int p1] (gW D cI cT cH (mw cI ad st))) (qI D (f_M_priority st p1).1 (mw cI ad ((f_M_priority st p1).2)) (inA ad 13)) 0 0 (inA ad 13) := by
  refine Met.ofW (cc := b_M_priority) (maxL := 2) (ret := (some .int)) (by decide +kernel) rfl ?_
  intro p e s m args below meth c s₁ B hml hv
  obtain ⟨rfl, hP, hK, hN⟩ := hv
  have hx := B.exec
  have hb := B.bytes
  have hr := B.returns
  have hlocks := B.notSynchronized
  have hts0 := atoms_spec (ws := w_M_priority) B.pre
  have hts : ∀ w ∈ TT, w.before [.ref (ad 0), .int p1].toArray s = true := fun w h => hts0 w (List.mem_cons_of_mem _ h)
  have hown : s.vm.findClass R_M = some m.cls := findClass_of_methodNamed B.named
  have hS : va_S (inA ad 13) s.heap s.heap [] := va_S.rf
  have hl := lv_entry ([.ref (ad 0), .int p1]) (n := 2) (Nat.le_of_ble_eq_true rfl)
  rw [lg_entry_eq]
  generalize (lg_sl ([.ref (ad 0), .int p1]) ++ List.replicate (2 - (lg_sl ([.ref (ad 0), .int p1])).length) Slot.unset).toArray = ls at hl ⊢
  have hl : lv_has ls 2 [(0, .ref (ad 0)), (1, .int p1)] := hl
  have he := f_M_priority.eq_1 st p1
  refine lv_aload_n hx hb d_M_priority_0 rfl (lv_at hl 0 rfl) ?_
  refine lv_iconst (v := 0) hx hb d_M_priority_1 (by decide) ?_
  refine va_put (D := D) (ci := 4) (v := .int 0) (ty := .int) (C := R_M) (T := F_M) (N := 18) hx hb hts in_M ft_M ft_M_ok n_M hown hK hP (mw_D hI) hS 0 mw_0 rfl 0 (by decide) (hts _ k_434) (fun _ h9 => h9) rfl (by decide +kernel) rfl rfl (Nat.le_of_ble_eq_true rfl) d_M_priority_2 (fun H locs hP _ hS => ?_)
  rw [mp_0 (k := 0) (by decide)] at hP
  generalize hw2 : wr st 0 0 0 = sw1 at hP he
  refine W.eq (g2 := F0 m 5 ls []) rfl ?_
  rw [f_M_priority_S5] at he
  refine lv_aload_n hx hb d_M_priority_5 rfl (lv_at hl 0 rfl) ?_
  refine lv_iload_n hx hb d_M_priority_6 rfl (lv_at hl 1 rfl) ?_
  refine rdV (As := [.int p1]) (rest := []) (na := 1) (c_M_isDeclared l D cI cT cH ad sw1 p1 ) ⟨hx, hb, hml, hown, hts⟩ k_500 k_502 k_12 k_28 k_503 (by decide +kernel) (by decide) (by decide) hP hK hN (q0 := 0) (ci := 4) mw_0 rfl rfl hl.1 rfl (Nat.le_of_ble_eq_true rfl) d_M_priority_7 ?_
  refine lv_if_eq (tgt := 22) hx hb d_M_priority_10 (by decide) (fun hc3 => ?_) (fun hc3 => ?_)
  · have he := he.trans (if_pos hc3)
    refine lv_iconst (v := (-1)) hx hb d_M_priority_22 (by decide) ?_
    exact W.iret (v := (-1)) hx hb hr (fun t ht _ => ⟨⟨(-1), (), rfl, by rw [he], (by rw [he]; show va_P _ _ _ t.heap; rw [ht]; exact hP)⟩, hS.F ht⟩) hS.2.2 d_M_priority_23
  · have he := he.trans (if_neg hc3)
    refine lv_aload_n hx hb d_M_priority_13 rfl (lv_at hl 0 rfl) ?_
    refine va_get (D := D) (ci := 4) (v := .ref (ad 5)) (C := R_M) (T := F_M) (N := 18) hx hb hts in_M hown hK hP 0 mw_0 rfl 8 (by decide) (hts _ k_442) (fun _ h9 => h9) rfl d_M_priority_14 ?_
    refine lv_iload_n hx hb d_M_priority_17 rfl (lv_at hl 1 rfl) ?_
    have hi4 : vp_in p1 8 := (by first | with_reducible assumption | exact vi_isIn7 (by with_reducible assumption) | exact vi_isThing (by with_reducible assumption) | exact vi_decl (by with_reducible assumption) | exact vi_ready (by with_reducible assumption) | exact vi_run (by with_reducible assumption) (by with_reducible assumption) | exact vi_run (by with_reducible assumption) (vi_runner _) | exact vi_mTask (by with_reducible assumption) | exact vi_mThing (by with_reducible assumption) | exact vi_mdecl (by with_reducible assumption) | exact vi_mready (by with_reducible assumption))
    refine va_iald hx hb hK hP 5 0 mw_5 rfl hi4 d_M_priority_18 ?_
    refine W.eq (g2 := F0 m 19 ls [.int (sw1 5 p1.toNatClampNeg)]) rfl ?_
    refine lv_goto (tgt := 23) hx hb d_M_priority_19 (by decide) ?_
    exact W.iret (v := (sw1 5 p1.toNatClampNeg)) hx hb hr (fun t ht _ => ⟨⟨(sw1 5 p1.toNatClampNeg), (), rfl, by rw [he], (by rw [he]; show va_P _ _ _ t.heap; rw [ht]; exact hP)⟩, hS.F ht⟩) hS.2.2 d_M_priority_23
set_option maxHeartbeats 4000000 in
set_option maxRecDepth 100000 in
theorem c_M_place (l : Launch) (D : va_G) (cI cT cH : ClassId) (ad : Nat → Nat) (st : St) (p1 : Int32) (hI : ∀ i j, i < 13 → j < 13 → ad i = ad j → i = j) : Met l y_M_place w_M_place { frames := 2, cells := 0, slots := 0, locals := 41 } (va_Pc [.ref (ad 0), .int p1] (gW D cI cT cH (mw cI ad st))) (qI D (f_M_place st p1).1 (mw cI ad ((f_M_place st p1).2)) (inA ad 13)) 0 0 (inA ad 13) := by
  refine Met.ofW (cc := b_M_place) (maxL := 4) (ret := (some .int)) (by decide +kernel) rfl ?_
  intro p e s m args below meth c s₁ B hml hv
  obtain ⟨rfl, hP, hK, hN⟩ := hv
  have hx := B.exec
  have hb := B.bytes
  have hr := B.returns
  have hlocks := B.notSynchronized
  have hts0 := atoms_spec (ws := w_M_place) B.pre
  have hts : ∀ w ∈ TT, w.before [.ref (ad 0), .int p1].toArray s = true := fun w h => hts0 w (List.mem_cons_of_mem _ h)
  have hown : s.vm.findClass R_M = some m.cls := findClass_of_methodNamed B.named
  have hS : va_S (inA ad 13) s.heap s.heap [] := va_S.rf
  have hl := lv_entry ([.ref (ad 0), .int p1]) (n := 4) (Nat.le_of_ble_eq_true rfl)
  rw [lg_entry_eq]
  generalize (lg_sl ([.ref (ad 0), .int p1]) ++ List.replicate (4 - (lg_sl ([.ref (ad 0), .int p1])).length) Slot.unset).toArray = ls at hl ⊢
  have hl : lv_has ls 4 [(0, .ref (ad 0)), (1, .int p1)] := hl
  have L19 : ∀ (n i : Nat) (v2 : Int32) (sl : St) (H : Heap) (locs : List Loc) (ls : Array Slot), i + n = 8 → lv_has ls 4 [(0, .ref (ad 0)), (1, .int p1), (2, .int v2), (3, .int (nI i))] → va_P D cls9 (mw cI ad sl) H → va_S (inA ad 13) s.heap H locs → (vp_in p1 8) → f_M_place st p1 = f_M_place_L19 n i sl p1 v2 → W p l e (headSpec w_M_place { frames := 2, cells := 0, slots := 0, locals := 41 }).room s m [.ref (ad 0), .int p1].toArray below meth c H locs 0 0 (MQ below (qI D (f_M_place st p1).1 (mw cI ad ((f_M_place st p1).2)) (inA ad 13)) [.ref (ad 0), .int p1].toArray s 0 0 (inA ad 13)) (F0 m 19 ls []) := by
    intro n
    induction n with
    | zero =>
      intro i v2 sl H locs ls hcnt hl hP hS g0 he
      have hz : i = 8 := by omega
      subst hz
      rw [f_M_place_L19] at he
      refine lv_iload_n hx hb d_M_place_19 rfl (lv_at hl 3 rfl) ?_
      refine lv_bipush (v := 8) hx hb d_M_place_20 (by decide) ?_
      refine lv_icmp_ge (tgt := 62) hx hb d_M_place_22 (by decide) (fun _ => ?_) (fun h9 => absurd (by decide) h9)
      refine lv_iload_n hx hb d_M_place_62 rfl (lv_at hl 2 rfl) ?_
      exact W.iret (v := v2) hx hb hr (fun t ht _ => ⟨⟨v2, (), rfl, by rw [he], (by rw [he]; show va_P _ _ _ t.heap; rw [ht]; exact hP)⟩, hS.F ht⟩) hS.2.2 d_M_place_63
    | succ n ih =>
      intro i v2 sl H locs ls hcnt hl hP hS g0 he
      have hi8 : i < 8 := by omega
      rw [f_M_place_L19] at he
      refine lv_iload_n hx hb d_M_place_19 rfl (lv_at hl 3 rfl) ?_
      refine lv_bipush (v := 8) hx hb d_M_place_20 (by decide) ?_
      refine lv_icmp_ge (tgt := 62) hx hb d_M_place_22 (by decide) (fun h9 => absurd h9 (nlt_8 hi8)) (fun _ => ?_)
      refine lv_iload_n hx hb d_M_place_25 rfl (lv_at hl 2 rfl) ?_
      refine lv_aload_n hx hb d_M_place_26 rfl (lv_at hl 0 rfl) ?_
      refine va_get (D := D) (ci := 4) (v := .ref (ad 4)) (C := R_M) (T := F_M) (N := 18) hx hb hts in_M hown hK hP 0 mw_0 rfl 7 (by decide) (hts _ k_441) (fun _ h9 => h9) rfl d_M_place_27 ?_
      refine lv_iload_n hx hb d_M_place_30 rfl (lv_at hl 3 rfl) ?_
      have hi1 : vp_in (nI i) 8 := (vp_in_nI (by omega) (by decide))
      refine va_iald hx hb hK hP 4 0 mw_4 rfl hi1 d_M_place_31 ?_
      rw [show (nI i).toNatClampNeg = i from nI_clamp (by omega)]
      refine W.eq (g2 := F0 m 32 ls [.int (sl 4 i), .int v2]) rfl ?_
      refine lv_if_le (tgt := 53) hx hb d_M_place_32 (by decide) (fun hc2 => ?_) (fun hc2 => ?_)
      · have he := he.trans (if_pos hc2)
        refine lv_iconst (v := 0) hx hb d_M_place_53 (by decide) ?_
        refine lv_iadd hx hb d_M_place_54 ?_
        refine lv_istore_n hx hb d_M_place_55 rfl hl (by decide) rfl (fun ls hl => ?_)
        have hl : lv_has ls 4 [(2, .int (v2 + 0)), (0, .ref (ad 0)), (1, .int p1), (3, .int (nI i))] := hl
        refine lv_iinc (k := 3) (v := (nI (i + 1))) hx hb d_M_place_56 hl rfl (by first | rfl | (rw [nI_succ]; rfl)) (by decide) rfl (fun ls hl => ?_)
        have hl : lv_has ls 4 [(3, .int (nI (i + 1))), (2, .int (v2 + 0)), (0, .ref (ad 0)), (1, .int p1)] := hl
        refine lv_goto (tgt := 19) hx hb d_M_place_59 (by decide) ?_
        exact ih (i + 1) (v2 + 0) sl H locs ls (by omega) (lv_sub hl [2, 3, 1, 0] rfl) hP hS (by first | with_reducible assumption | exact Or.inl rfl | exact (fun h9 => absurd h9 (by decide)) | exact (fun h9 => absurd rfl h9) | exact vi_runner _ | exact Or.inr (vp_in_nI (by omega) (by decide)) | exact Or.inr (by first | with_reducible assumption | exact vi_isIn7 (by with_reducible assumption) | exact vi_isThing (by with_reducible assumption) | exact vi_decl (by with_reducible assumption) | exact vi_ready (by with_reducible assumption) | exact vi_run (by with_reducible assumption) (by with_reducible assumption) | exact vi_run (by with_reducible assumption) (vi_runner _) | exact vi_mTask (by with_reducible assumption) | exact vi_mThing (by with_reducible assumption) | exact vi_mdecl (by with_reducible assumption) | exact vi_mready (by with_reducible assumption)) | exact (fun _ => ⟨(by first | with_reducible assumption | exact vi_isIn7 (by with_reducible assumption) | exact vi_isThing (by with_reducible assumption) | exact vi_decl (by with_reducible assumption) | exact vi_ready (by with_reducible assumption) | exact vi_run (by with_reducible assumption) (by with_reducible assumption) | exact vi_run (by with_reducible assumption) (vi_runner _) | exact vi_mTask (by with_reducible assumption) | exact vi_mThing (by with_reducible assumption) | exact vi_mdecl (by with_reducible assumption) | exact vi_mready (by with_reducible assumption)), (by first | with_reducible assumption | exact vi_isIn7 (by with_reducible assumption) | exact vi_isThing (by with_reducible assumption) | exact vi_decl (by with_reducible assumption) | exact vi_ready (by with_reducible assumption) | exact vi_run (by with_reducible assumption) (by with_reducible assumption) | exact vi_run (by with_reducible assumption) (vi_runner _) | exact vi_mTask (by with_reducible assumption) | exact vi_mThing (by with_reducible assumption) | exact vi_mdecl (by with_reducible assumption) | exact vi_mready (by with_reducible assumption))⟩) | exact (fun _ => ⟨vi_latest (by with_reducible assumption) (by with_reducible assumption), vi_run (by with_reducible assumption) (by with_reducible assumption)⟩) | exact (fun _ => (by with_reducible assumption : ¬ v4 = 0 → _) (by with_reducible assumption)) | exact (fun _ => (by first | with_reducible assumption | exact vi_isIn7 (by with_reducible assumption) | exact vi_isThing (by with_reducible assumption) | exact vi_decl (by with_reducible assumption) | exact vi_ready (by with_reducible assumption) | exact vi_run (by with_reducible assumption) (by with_reducible assumption) | exact vi_run (by with_reducible assumption) (vi_runner _) | exact vi_mTask (by with_reducible assumption) | exact vi_mThing (by with_reducible assumption) | exact vi_mdecl (by with_reducible assumption) | exact vi_mready (by with_reducible assumption))) | exact (by first | with_reducible assumption | exact vi_isIn7 (by with_reducible assumption) | exact vi_isThing (by with_reducible assumption) | exact vi_decl (by with_reducible assumption) | exact vi_ready (by with_reducible assumption) | exact vi_run (by with_reducible assumption) (by with_reducible assumption) | exact vi_run (by with_reducible assumption) (vi_runner _) | exact vi_mTask (by with_reducible assumption) | exact vi_mThing (by with_reducible assumption) | exact vi_mdecl (by with_reducible assumption) | exact vi_mready (by with_reducible assumption))) he
      · have he := he.trans (if_neg hc2)
        refine lv_iload_n hx hb d_M_place_35 rfl (lv_at hl 3 rfl) ?_
        refine lv_iload_n hx hb d_M_place_36 rfl (lv_at hl 1 rfl) ?_
        refine lv_icmp_eq (tgt := 53) hx hb d_M_place_37 (by decide) (fun hc3 => ?_) (fun hc3 => ?_)
        · have he := he.trans (if_pos hc3)
          refine lv_iconst (v := 0) hx hb d_M_place_53 (by decide) ?_
          refine lv_iadd hx hb d_M_place_54 ?_
          refine lv_istore_n hx hb d_M_place_55 rfl hl (by decide) rfl (fun ls hl => ?_)
          have hl : lv_has ls 4 [(2, .int (v2 + 0)), (0, .ref (ad 0)), (1, .int p1), (3, .int (nI i))] := hl
          refine lv_iinc (k := 3) (v := (nI (i + 1))) hx hb d_M_place_56 hl rfl (by first | rfl | (rw [nI_succ]; rfl)) (by decide) rfl (fun ls hl => ?_)
          have hl : lv_has ls 4 [(3, .int (nI (i + 1))), (2, .int (v2 + 0)), (0, .ref (ad 0)), (1, .int p1)] := hl
          refine lv_goto (tgt := 19) hx hb d_M_place_59 (by decide) ?_
          exact ih (i + 1) (v2 + 0) sl H locs ls (by omega) (lv_sub hl [2, 3, 1, 0] rfl) hP hS (by first | with_reducible assumption | exact Or.inl rfl | exact (fun h9 => absurd h9 (by decide)) | exact (fun h9 => absurd rfl h9) | exact vi_runner _ | exact Or.inr (vp_in_nI (by omega) (by decide)) | exact Or.inr (by first | with_reducible assumption | exact vi_isIn7 (by with_reducible assumption) | exact vi_isThing (by with_reducible assumption) | exact vi_decl (by with_reducible assumption) | exact vi_ready (by with_reducible assumption) | exact vi_run (by with_reducible assumption) (by with_reducible assumption) | exact vi_run (by with_reducible assumption) (vi_runner _) | exact vi_mTask (by with_reducible assumption) | exact vi_mThing (by with_reducible assumption) | exact vi_mdecl (by with_reducible assumption) | exact vi_mready (by with_reducible assumption)) | exact (fun _ => ⟨(by first | with_reducible assumption | exact vi_isIn7 (by with_reducible assumption) | exact vi_isThing (by with_reducible assumption) | exact vi_decl (by with_reducible assumption) | exact vi_ready (by with_reducible assumption) | exact vi_run (by with_reducible assumption) (by with_reducible assumption) | exact vi_run (by with_reducible assumption) (vi_runner _) | exact vi_mTask (by with_reducible assumption) | exact vi_mThing (by with_reducible assumption) | exact vi_mdecl (by with_reducible assumption) | exact vi_mready (by with_reducible assumption)), (by first | with_reducible assumption | exact vi_isIn7 (by with_reducible assumption) | exact vi_isThing (by with_reducible assumption) | exact vi_decl (by with_reducible assumption) | exact vi_ready (by with_reducible assumption) | exact vi_run (by with_reducible assumption) (by with_reducible assumption) | exact vi_run (by with_reducible assumption) (vi_runner _) | exact vi_mTask (by with_reducible assumption) | exact vi_mThing (by with_reducible assumption) | exact vi_mdecl (by with_reducible assumption) | exact vi_mready (by with_reducible assumption))⟩) | exact (fun _ => ⟨vi_latest (by with_reducible assumption) (by with_reducible assumption), vi_run (by with_reducible assumption) (by with_reducible assumption)⟩) | exact (fun _ => (by with_reducible assumption : ¬ v4 = 0 → _) (by with_reducible assumption)) | exact (fun _ => (by first | with_reducible assumption | exact vi_isIn7 (by with_reducible assumption) | exact vi_isThing (by with_reducible assumption) | exact vi_decl (by with_reducible assumption) | exact vi_ready (by with_reducible assumption) | exact vi_run (by with_reducible assumption) (by with_reducible assumption) | exact vi_run (by with_reducible assumption) (vi_runner _) | exact vi_mTask (by with_reducible assumption) | exact vi_mThing (by with_reducible assumption) | exact vi_mdecl (by with_reducible assumption) | exact vi_mready (by with_reducible assumption))) | exact (by first | with_reducible assumption | exact vi_isIn7 (by with_reducible assumption) | exact vi_isThing (by with_reducible assumption) | exact vi_decl (by with_reducible assumption) | exact vi_ready (by with_reducible assumption) | exact vi_run (by with_reducible assumption) (by with_reducible assumption) | exact vi_run (by with_reducible assumption) (vi_runner _) | exact vi_mTask (by with_reducible assumption) | exact vi_mThing (by with_reducible assumption) | exact vi_mdecl (by with_reducible assumption) | exact vi_mready (by with_reducible assumption))) he
        · have he := he.trans (if_neg hc3)
          refine lv_aload_n hx hb d_M_place_40 rfl (lv_at hl 0 rfl) ?_
          refine lv_iload_n hx hb d_M_place_41 rfl (lv_at hl 3 rfl) ?_
          refine lv_iload_n hx hb d_M_place_42 rfl (lv_at hl 1 rfl) ?_
          refine rdV (As := [.int (nI i), .int p1]) (rest := [.int v2]) (na := 2) (c_M_isFirst l D cI cT cH ad sl (nI i) p1 (vp_in_nI (by omega) (by decide)) (by first | with_reducible assumption | exact vi_isIn7 (by with_reducible assumption) | exact vi_isThing (by with_reducible assumption) | exact vi_decl (by with_reducible assumption) | exact vi_ready (by with_reducible assumption) | exact vi_run (by with_reducible assumption) (by with_reducible assumption) | exact vi_run (by with_reducible assumption) (vi_runner _) | exact vi_mTask (by with_reducible assumption) | exact vi_mThing (by with_reducible assumption) | exact vi_mdecl (by with_reducible assumption) | exact vi_mready (by with_reducible assumption))) ⟨hx, hb, hml, hown, hts⟩ k_531 k_533 k_16 k_28 k_534 (by decide +kernel) (by decide) (by decide) hP hK hN (q0 := 0) (ci := 4) mw_0 rfl rfl hl.1 rfl (Nat.le_of_ble_eq_true rfl) d_M_place_43 ?_
          refine lv_if_eq (tgt := 53) hx hb d_M_place_46 (by decide) (fun hc4 => ?_) (fun hc4 => ?_)
          · have he := he.trans (if_pos hc4)
            refine lv_iconst (v := 0) hx hb d_M_place_53 (by decide) ?_
            refine lv_iadd hx hb d_M_place_54 ?_
            refine lv_istore_n hx hb d_M_place_55 rfl hl (by decide) rfl (fun ls hl => ?_)
            have hl : lv_has ls 4 [(2, .int (v2 + 0)), (0, .ref (ad 0)), (1, .int p1), (3, .int (nI i))] := hl
            refine lv_iinc (k := 3) (v := (nI (i + 1))) hx hb d_M_place_56 hl rfl (by first | rfl | (rw [nI_succ]; rfl)) (by decide) rfl (fun ls hl => ?_)
            have hl : lv_has ls 4 [(3, .int (nI (i + 1))), (2, .int (v2 + 0)), (0, .ref (ad 0)), (1, .int p1)] := hl
            refine lv_goto (tgt := 19) hx hb d_M_place_59 (by decide) ?_
            exact ih (i + 1) (v2 + 0) sl H locs ls (by omega) (lv_sub hl [2, 3, 1, 0] rfl) hP hS (by first | with_reducible assumption | exact Or.inl rfl | exact (fun h9 => absurd h9 (by decide)) | exact (fun h9 => absurd rfl h9) | exact vi_runner _ | exact Or.inr (vp_in_nI (by omega) (by decide)) | exact Or.inr (by first | with_reducible assumption | exact vi_isIn7 (by with_reducible assumption) | exact vi_isThing (by with_reducible assumption) | exact vi_decl (by with_reducible assumption) | exact vi_ready (by with_reducible assumption) | exact vi_run (by with_reducible assumption) (by with_reducible assumption) | exact vi_run (by with_reducible assumption) (vi_runner _) | exact vi_mTask (by with_reducible assumption) | exact vi_mThing (by with_reducible assumption) | exact vi_mdecl (by with_reducible assumption) | exact vi_mready (by with_reducible assumption)) | exact (fun _ => ⟨(by first | with_reducible assumption | exact vi_isIn7 (by with_reducible assumption) | exact vi_isThing (by with_reducible assumption) | exact vi_decl (by with_reducible assumption) | exact vi_ready (by with_reducible assumption) | exact vi_run (by with_reducible assumption) (by with_reducible assumption) | exact vi_run (by with_reducible assumption) (vi_runner _) | exact vi_mTask (by with_reducible assumption) | exact vi_mThing (by with_reducible assumption) | exact vi_mdecl (by with_reducible assumption) | exact vi_mready (by with_reducible assumption)), (by first | with_reducible assumption | exact vi_isIn7 (by with_reducible assumption) | exact vi_isThing (by with_reducible assumption) | exact vi_decl (by with_reducible assumption) | exact vi_ready (by with_reducible assumption) | exact vi_run (by with_reducible assumption) (by with_reducible assumption) | exact vi_run (by with_reducible assumption) (vi_runner _) | exact vi_mTask (by with_reducible assumption) | exact vi_mThing (by with_reducible assumption) | exact vi_mdecl (by with_reducible assumption) | exact vi_mready (by with_reducible assumption))⟩) | exact (fun _ => ⟨vi_latest (by with_reducible assumption) (by with_reducible assumption), vi_run (by with_reducible assumption) (by with_reducible assumption)⟩) | exact (fun _ => (by with_reducible assumption : ¬ v4 = 0 → _) (by with_reducible assumption)) | exact (fun _ => (by first | with_reducible assumption | exact vi_isIn7 (by with_reducible assumption) | exact vi_isThing (by with_reducible assumption) | exact vi_decl (by with_reducible assumption) | exact vi_ready (by with_reducible assumption) | exact vi_run (by with_reducible assumption) (by with_reducible assumption) | exact vi_run (by with_reducible assumption) (vi_runner _) | exact vi_mTask (by with_reducible assumption) | exact vi_mThing (by with_reducible assumption) | exact vi_mdecl (by with_reducible assumption) | exact vi_mready (by with_reducible assumption))) | exact (by first | with_reducible assumption | exact vi_isIn7 (by with_reducible assumption) | exact vi_isThing (by with_reducible assumption) | exact vi_decl (by with_reducible assumption) | exact vi_ready (by with_reducible assumption) | exact vi_run (by with_reducible assumption) (by with_reducible assumption) | exact vi_run (by with_reducible assumption) (vi_runner _) | exact vi_mTask (by with_reducible assumption) | exact vi_mThing (by with_reducible assumption) | exact vi_mdecl (by with_reducible assumption) | exact vi_mready (by with_reducible assumption))) he
          · have he := he.trans (if_neg hc4)
            refine lv_iconst (v := 1) hx hb d_M_place_49 (by decide) ?_
            refine lv_goto (tgt := 54) hx hb d_M_place_50 (by decide) ?_
            refine lv_iadd hx hb d_M_place_54 ?_
            refine lv_istore_n hx hb d_M_place_55 rfl hl (by decide) rfl (fun ls hl => ?_)
            have hl : lv_has ls 4 [(2, .int (v2 + 1)), (0, .ref (ad 0)), (1, .int p1), (3, .int (nI i))] := hl
            refine lv_iinc (k := 3) (v := (nI (i + 1))) hx hb d_M_place_56 hl rfl (by first | rfl | (rw [nI_succ]; rfl)) (by decide) rfl (fun ls hl => ?_)
            have hl : lv_has ls 4 [(3, .int (nI (i + 1))), (2, .int (v2 + 1)), (0, .ref (ad 0)), (1, .int p1)] := hl
            refine lv_goto (tgt := 19) hx hb d_M_place_59 (by decide) ?_
            exact ih (i + 1) (v2 + 1) sl H locs ls (by omega) (lv_sub hl [2, 3, 1, 0] rfl) hP hS (by first | with_reducible assumption | exact Or.inl rfl | exact (fun h9 => absurd h9 (by decide)) | exact (fun h9 => absurd rfl h9) | exact vi_runner _ | exact Or.inr (vp_in_nI (by omega) (by decide)) | exact Or.inr (by first | with_reducible assumption | exact vi_isIn7 (by with_reducible assumption) | exact vi_isThing (by with_reducible assumption) | exact vi_decl (by with_reducible assumption) | exact vi_ready (by with_reducible assumption) | exact vi_run (by with_reducible assumption) (by with_reducible assumption) | exact vi_run (by with_reducible assumption) (vi_runner _) | exact vi_mTask (by with_reducible assumption) | exact vi_mThing (by with_reducible assumption) | exact vi_mdecl (by with_reducible assumption) | exact vi_mready (by with_reducible assumption)) | exact (fun _ => ⟨(by first | with_reducible assumption | exact vi_isIn7 (by with_reducible assumption) | exact vi_isThing (by with_reducible assumption) | exact vi_decl (by with_reducible assumption) | exact vi_ready (by with_reducible assumption) | exact vi_run (by with_reducible assumption) (by with_reducible assumption) | exact vi_run (by with_reducible assumption) (vi_runner _) | exact vi_mTask (by with_reducible assumption) | exact vi_mThing (by with_reducible assumption) | exact vi_mdecl (by with_reducible assumption) | exact vi_mready (by with_reducible assumption)), (by first | with_reducible assumption | exact vi_isIn7 (by with_reducible assumption) | exact vi_isThing (by with_reducible assumption) | exact vi_decl (by with_reducible assumption) | exact vi_ready (by with_reducible assumption) | exact vi_run (by with_reducible assumption) (by with_reducible assumption) | exact vi_run (by with_reducible assumption) (vi_runner _) | exact vi_mTask (by with_reducible assumption) | exact vi_mThing (by with_reducible assumption) | exact vi_mdecl (by with_reducible assumption) | exact vi_mready (by with_reducible assumption))⟩) | exact (fun _ => ⟨vi_latest (by with_reducible assumption) (by with_reducible assumption), vi_run (by with_reducible assumption) (by with_reducible assumption)⟩) | exact (fun _ => (by with_reducible assumption : ¬ v4 = 0 → _) (by with_reducible assumption)) | exact (fun _ => (by first | with_reducible assumption | exact vi_isIn7 (by with_reducible assumption) | exact vi_isThing (by with_reducible assumption) | exact vi_decl (by with_reducible assumption) | exact vi_ready (by with_reducible assumption) | exact vi_run (by with_reducible assumption) (by with_reducible assumption) | exact vi_run (by with_reducible assumption) (vi_runner _) | exact vi_mTask (by with_reducible assumption) | exact vi_mThing (by with_reducible assumption) | exact vi_mdecl (by with_reducible assumption) | exact vi_mready (by with_reducible assumption))) | exact (by first | with_reducible assumption | exact vi_isIn7 (by with_reducible assumption) | exact vi_isThing (by with_reducible assumption) | exact vi_decl (by with_reducible assumption) | exact vi_ready (by with_reducible assumption) | exact vi_run (by with_reducible assumption) (by with_reducible assumption) | exact vi_run (by with_reducible assumption) (vi_runner _) | exact vi_mTask (by with_reducible assumption) | exact vi_mThing (by with_reducible assumption) | exact vi_mdecl (by with_reducible assumption) | exact vi_mready (by with_reducible assumption))) he
  have he := f_M_place.eq_1 st p1
  refine lv_aload_n hx hb d_M_place_0 rfl (lv_at hl 0 rfl) ?_
  refine lv_iconst (v := 0) hx hb d_M_place_1 (by decide) ?_
  refine va_put (D := D) (ci := 4) (v := .int 0) (ty := .int) (C := R_M) (T := F_M) (N := 18) hx hb hts in_M ft_M ft_M_ok n_M hown hK hP (mw_D hI) hS 0 mw_0 rfl 0 (by decide) (hts _ k_434) (fun _ h9 => h9) rfl (by decide +kernel) rfl rfl (Nat.le_of_ble_eq_true rfl) d_M_place_2 (fun H locs hP _ hS => ?_)
  rw [mp_0 (k := 0) (by decide)] at hP
  generalize hw6 : wr st 0 0 0 = sw5 at hP he
  refine W.eq (g2 := F0 m 5 ls []) rfl ?_
  rw [f_M_place_S5] at he
  refine lv_aload_n hx hb d_M_place_5 rfl (lv_at hl 0 rfl) ?_
  refine lv_iload_n hx hb d_M_place_6 rfl (lv_at hl 1 rfl) ?_
  refine rdV (As := [.int p1]) (rest := []) (na := 1) (c_M_isReady l D cI cT cH ad sw5 p1 ) ⟨hx, hb, hml, hown, hts⟩ k_523 k_525 k_14 k_28 k_526 (by decide +kernel) (by decide) (by decide) hP hK hN (q0 := 0) (ci := 4) mw_0 rfl rfl hl.1 rfl (Nat.le_of_ble_eq_true rfl) d_M_place_7 ?_
  refine lv_if_ne (tgt := 15) hx hb d_M_place_10 (by decide) (fun hc7 => ?_) (fun hc7 => ?_)
  · have he := he.trans (if_neg hc7)
    refine lv_iconst (v := 0) hx hb d_M_place_15 (by decide) ?_
    refine lv_istore_n hx hb d_M_place_16 rfl hl (by decide) rfl (fun ls hl => ?_)
    have hl : lv_has ls 4 [(2, .int 0), (0, .ref (ad 0)), (1, .int p1)] := hl
    refine lv_iconst (v := 0) hx hb d_M_place_17 (by decide) ?_
    refine lv_istore_n hx hb d_M_place_18 rfl hl (by decide) rfl (fun ls hl => ?_)
    have hl : lv_has ls 4 [(3, .int 0), (2, .int 0), (0, .ref (ad 0)), (1, .int p1)] := hl
    exact L19 8 0 0 sw5 H locs ls (by first | decide | omega) (lv_sub hl [2, 3, 1, 0] rfl) hP hS (by first | with_reducible assumption | exact Or.inl rfl | exact (fun h9 => absurd h9 (by decide)) | exact (fun h9 => absurd rfl h9) | exact vi_runner _ | exact Or.inr (vp_in_nI (by omega) (by decide)) | exact Or.inr (by first | with_reducible assumption | exact vi_isIn7 (by with_reducible assumption) | exact vi_isThing (by with_reducible assumption) | exact vi_decl (by with_reducible assumption) | exact vi_ready (by with_reducible assumption) | exact vi_run (by with_reducible assumption) (by with_reducible assumption) | exact vi_run (by with_reducible assumption) (vi_runner _) | exact vi_mTask (by with_reducible assumption) | exact vi_mThing (by with_reducible assumption) | exact vi_mdecl (by with_reducible assumption) | exact vi_mready (by with_reducible assumption)) | exact (fun _ => ⟨(by first | with_reducible assumption | exact vi_isIn7 (by with_reducible assumption) | exact vi_isThing (by with_reducible assumption) | exact vi_decl (by with_reducible assumption) | exact vi_ready (by with_reducible assumption) | exact vi_run (by with_reducible assumption) (by with_reducible assumption) | exact vi_run (by with_reducible assumption) (vi_runner _) | exact vi_mTask (by with_reducible assumption) | exact vi_mThing (by with_reducible assumption) | exact vi_mdecl (by with_reducible assumption) | exact vi_mready (by with_reducible assumption)), (by first | with_reducible assumption | exact vi_isIn7 (by with_reducible assumption) | exact vi_isThing (by with_reducible assumption) | exact vi_decl (by with_reducible assumption) | exact vi_ready (by with_reducible assumption) | exact vi_run (by with_reducible assumption) (by with_reducible assumption) | exact vi_run (by with_reducible assumption) (vi_runner _) | exact vi_mTask (by with_reducible assumption) | exact vi_mThing (by with_reducible assumption) | exact vi_mdecl (by with_reducible assumption) | exact vi_mready (by with_reducible assumption))⟩) | exact (fun _ => ⟨vi_latest (by with_reducible assumption) (by with_reducible assumption), vi_run (by with_reducible assumption) (by with_reducible assumption)⟩) | exact (fun _ => (by with_reducible assumption : ¬ v4 = 0 → _) (by with_reducible assumption)) | exact (fun _ => (by first | with_reducible assumption | exact vi_isIn7 (by with_reducible assumption) | exact vi_isThing (by with_reducible assumption) | exact vi_decl (by with_reducible assumption) | exact vi_ready (by with_reducible assumption) | exact vi_run (by with_reducible assumption) (by with_reducible assumption) | exact vi_run (by with_reducible assumption) (vi_runner _) | exact vi_mTask (by with_reducible assumption) | exact vi_mThing (by with_reducible assumption) | exact vi_mdecl (by with_reducible assumption) | exact vi_mready (by with_reducible assumption))) | exact (by first | with_reducible assumption | exact vi_isIn7 (by with_reducible assumption) | exact vi_isThing (by with_reducible assumption) | exact vi_decl (by with_reducible assumption) | exact vi_ready (by with_reducible assumption) | exact vi_run (by with_reducible assumption) (by with_reducible assumption) | exact vi_run (by with_reducible assumption) (vi_runner _) | exact vi_mTask (by with_reducible assumption) | exact vi_mThing (by with_reducible assumption) | exact vi_mdecl (by with_reducible assumption) | exact vi_mready (by with_reducible assumption))) he
  · have he := he.trans (if_pos hc7)
    refine lv_iconst (v := (-1)) hx hb d_M_place_13 (by decide) ?_
    exact W.iret (v := (-1)) hx hb hr (fun t ht _ => ⟨⟨(-1), (), rfl, by rw [he], (by rw [he]; show va_P _ _ _ t.heap; rw [ht]; exact hP)⟩, hS.F ht⟩) hS.2.2 d_M_place_14
set_option maxHeartbeats 4000000 in
set_option maxRecDepth 100000 in
theorem c_M_ceiling (l : Launch) (D : va_G) (cI cT cH : ClassId) (ad : Nat → Nat) (st : St) (p1 : Int32) (hI : ∀ i j, i < 13 → j < 13 → ad i = ad j → i = j) : Met l y_M_ceiling w_M_ceiling { frames := 1, cells := 0, slots := 0, locals := 23 } (va_Pc [.ref (ad 0), .int p1] (gW D cI cT cH (mw cI ad st))) (qI D (f_M_ceiling st p1).1 (mw cI ad ((f_M_ceiling st p1).2)) (inA ad 13)) 0 0 (inA ad 13) := by
  refine Met.ofW (cc := b_M_ceiling) (maxL := 2) (ret := (some .int)) (by decide +kernel) rfl ?_
  intro p e s m args below meth c s₁ B hml hv
  obtain ⟨rfl, hP, hK, hN⟩ := hv
  have hx := B.exec
  have hb := B.bytes
  have hr := B.returns
  have hlocks := B.notSynchronized
  have hts0 := atoms_spec (ws := w_M_ceiling) B.pre
  have hts : ∀ w ∈ TT, w.before [.ref (ad 0), .int p1].toArray s = true := fun w h => hts0 w (List.mem_cons_of_mem _ h)
  have hown : s.vm.findClass R_M = some m.cls := findClass_of_methodNamed B.named
  have hS : va_S (inA ad 13) s.heap s.heap [] := va_S.rf
  have hl := lv_entry ([.ref (ad 0), .int p1]) (n := 2) (Nat.le_of_ble_eq_true rfl)
  rw [lg_entry_eq]
  generalize (lg_sl ([.ref (ad 0), .int p1]) ++ List.replicate (2 - (lg_sl ([.ref (ad 0), .int p1])).length) Slot.unset).toArray = ls at hl ⊢
  have hl : lv_has ls 2 [(0, .ref (ad 0)), (1, .int p1)] := hl
  have he := f_M_ceiling.eq_1 st p1
  refine lv_aload_n hx hb d_M_ceiling_0 rfl (lv_at hl 0 rfl) ?_
  refine lv_iconst (v := 0) hx hb d_M_ceiling_1 (by decide) ?_
  refine va_put (D := D) (ci := 4) (v := .int 0) (ty := .int) (C := R_M) (T := F_M) (N := 18) hx hb hts in_M ft_M ft_M_ok n_M hown hK hP (mw_D hI) hS 0 mw_0 rfl 0 (by decide) (hts _ k_434) (fun _ h9 => h9) rfl (by decide +kernel) rfl rfl (Nat.le_of_ble_eq_true rfl) d_M_ceiling_2 (fun H locs hP _ hS => ?_)
  rw [mp_0 (k := 0) (by decide)] at hP
  generalize hw2 : wr st 0 0 0 = sw1 at hP he
  refine W.eq (g2 := F0 m 5 ls []) rfl ?_
  rw [f_M_ceiling_S5] at he
  refine lv_aload_n hx hb d_M_ceiling_5 rfl (lv_at hl 0 rfl) ?_
  refine va_get (D := D) (ci := 4) (v := .int (sw1 0 1)) (C := R_M) (T := F_M) (N := 18) hx hb hts in_M hown hK hP 0 mw_0 rfl 1 (by decide) (hts _ k_435) (fun _ h9 => h9) rfl d_M_ceiling_6 ?_
  refine lv_if_eq (tgt := 27) hx hb d_M_ceiling_9 (by decide) (fun hc3 => ?_) (fun hc3 => ?_)
  · have he := he.trans (if_pos hc3)
    refine lv_iconst (v := (-1)) hx hb d_M_ceiling_27 (by decide) ?_
    exact W.iret (v := (-1)) hx hb hr (fun t ht _ => ⟨⟨(-1), (), rfl, by rw [he], (by rw [he]; show va_P _ _ _ t.heap; rw [ht]; exact hP)⟩, hS.F ht⟩) hS.2.2 d_M_ceiling_28
  · have he := he.trans (if_neg hc3)
    refine lv_iload_n hx hb d_M_ceiling_12 rfl (lv_at hl 1 rfl) ?_
    refine rdS (As := [.int p1]) (rest := []) (na := 1) (c_M_isThing l p1 ) ⟨hx, hb, hml, hown, hts⟩ k_512 k_513 k_28 k_514 (by decide +kernel) (by decide) (by decide) rfl hl.1 rfl (Nat.le_of_ble_eq_true rfl) d_M_ceiling_13 ?_
    refine lv_if_eq (tgt := 27) hx hb d_M_ceiling_16 (by decide) (fun hc4 => ?_) (fun hc4 => ?_)
    · have he := he.trans (if_pos hc4)
      refine lv_iconst (v := (-1)) hx hb d_M_ceiling_27 (by decide) ?_
      exact W.iret (v := (-1)) hx hb hr (fun t ht _ => ⟨⟨(-1), (), rfl, by rw [he], (by rw [he]; show va_P _ _ _ t.heap; rw [ht]; exact hP)⟩, hS.F ht⟩) hS.2.2 d_M_ceiling_28
    · have he := he.trans (if_neg hc4)
      refine lv_aload_n hx hb d_M_ceiling_19 rfl (lv_at hl 0 rfl) ?_
      refine lv_iload_n hx hb d_M_ceiling_20 rfl (lv_at hl 1 rfl) ?_
      refine rdV (As := [.int p1]) (rest := []) (na := 1) (c_M_top l D cI cT cH ad sw1 p1 (by first | with_reducible assumption | exact vi_isIn7 (by with_reducible assumption) | exact vi_isThing (by with_reducible assumption) | exact vi_decl (by with_reducible assumption) | exact vi_ready (by with_reducible assumption) | exact vi_run (by with_reducible assumption) (by with_reducible assumption) | exact vi_run (by with_reducible assumption) (vi_runner _) | exact vi_mTask (by with_reducible assumption) | exact vi_mThing (by with_reducible assumption) | exact vi_mdecl (by with_reducible assumption) | exact vi_mready (by with_reducible assumption))) ⟨hx, hb, hml, hown, hts⟩ k_548 k_550 k_19 k_28 k_551 (by decide +kernel) (by decide) (by decide) hP hK hN (q0 := 0) (ci := 4) mw_0 rfl rfl hl.1 rfl (Nat.le_of_ble_eq_true rfl) d_M_ceiling_21 ?_
      refine lv_goto (tgt := 28) hx hb d_M_ceiling_24 (by decide) ?_
      exact W.iret (v := (f_M_top sw1 p1)) hx hb hr (fun t ht _ => ⟨⟨(f_M_top sw1 p1), (), rfl, by rw [he], (by rw [he]; show va_P _ _ _ t.heap; rw [ht]; exact hP)⟩, hS.F ht⟩) hS.2.2 d_M_ceiling_28
set_option maxHeartbeats 4000000 in
set_option maxRecDepth 100000 in
theorem c_M_holder (l : Launch) (D : va_G) (cI cT cH : ClassId) (ad : Nat → Nat) (st : St) (p1 : Int32) (hI : ∀ i j, i < 13 → j < 13 → ad i = ad j → i = j) : Met l y_M_holder w_M_holder { frames := 1, cells := 0, slots := 0, locals := 20 } (va_Pc [.ref (ad 0), .int p1] (gW D cI cT cH (mw cI ad st))) (qI D (f_M_holder st p1).1 (mw cI ad ((f_M_holder st p1).2)) (inA ad 13)) 0 0 (inA ad 13) := by
  refine Met.ofW (cc := b_M_holder) (maxL := 2) (ret := (some .int)) (by decide +kernel) rfl ?_
  intro p e s m args below meth c s₁ B hml hv
  obtain ⟨rfl, hP, hK, hN⟩ := hv
  have hx := B.exec
  have hb := B.bytes
  have hr := B.returns
  have hlocks := B.notSynchronized
  have hts0 := atoms_spec (ws := w_M_holder) B.pre
  have hts : ∀ w ∈ TT, w.before [.ref (ad 0), .int p1].toArray s = true := fun w h => hts0 w (List.mem_cons_of_mem _ h)
  have hown : s.vm.findClass R_M = some m.cls := findClass_of_methodNamed B.named
  have hS : va_S (inA ad 13) s.heap s.heap [] := va_S.rf
  have hl := lv_entry ([.ref (ad 0), .int p1]) (n := 2) (Nat.le_of_ble_eq_true rfl)
  rw [lg_entry_eq]
  generalize (lg_sl ([.ref (ad 0), .int p1]) ++ List.replicate (2 - (lg_sl ([.ref (ad 0), .int p1])).length) Slot.unset).toArray = ls at hl ⊢
  have hl : lv_has ls 2 [(0, .ref (ad 0)), (1, .int p1)] := hl
  have he := f_M_holder.eq_1 st p1
  refine lv_aload_n hx hb d_M_holder_0 rfl (lv_at hl 0 rfl) ?_
  refine lv_iconst (v := 0) hx hb d_M_holder_1 (by decide) ?_
  refine va_put (D := D) (ci := 4) (v := .int 0) (ty := .int) (C := R_M) (T := F_M) (N := 18) hx hb hts in_M ft_M ft_M_ok n_M hown hK hP (mw_D hI) hS 0 mw_0 rfl 0 (by decide) (hts _ k_434) (fun _ h9 => h9) rfl (by decide +kernel) rfl rfl (Nat.le_of_ble_eq_true rfl) d_M_holder_2 (fun H locs hP _ hS => ?_)
  rw [mp_0 (k := 0) (by decide)] at hP
  generalize hw2 : wr st 0 0 0 = sw1 at hP he
  refine W.eq (g2 := F0 m 5 ls []) rfl ?_
  rw [f_M_holder_S5] at he
  refine lv_iload_n hx hb d_M_holder_5 rfl (lv_at hl 1 rfl) ?_
  refine rdS (As := [.int p1]) (rest := []) (na := 1) (c_M_isThing l p1 ) ⟨hx, hb, hml, hown, hts⟩ k_512 k_513 k_28 k_514 (by decide +kernel) (by decide) (by decide) rfl hl.1 rfl (Nat.le_of_ble_eq_true rfl) d_M_holder_6 ?_
  refine lv_if_eq (tgt := 21) hx hb d_M_holder_9 (by decide) (fun hc3 => ?_) (fun hc3 => ?_)
  · have he := he.trans (if_pos hc3)
    refine lv_iconst (v := (-1)) hx hb d_M_holder_21 (by decide) ?_
    exact W.iret (v := (-1)) hx hb hr (fun t ht _ => ⟨⟨(-1), (), rfl, by rw [he], (by rw [he]; show va_P _ _ _ t.heap; rw [ht]; exact hP)⟩, hS.F ht⟩) hS.2.2 d_M_holder_22
  · have he := he.trans (if_neg hc3)
    refine lv_aload_n hx hb d_M_holder_12 rfl (lv_at hl 0 rfl) ?_
    refine va_get (D := D) (ci := 4) (v := .ref (ad 9)) (C := R_M) (T := F_M) (N := 18) hx hb hts in_M hown hK hP 0 mw_0 rfl 12 (by decide) (hts _ k_446) (fun _ h9 => h9) rfl d_M_holder_13 ?_
    refine lv_iload_n hx hb d_M_holder_16 rfl (lv_at hl 1 rfl) ?_
    have hi4 : vp_in p1 6 := (by first | with_reducible assumption | exact vi_isIn7 (by with_reducible assumption) | exact vi_isThing (by with_reducible assumption) | exact vi_decl (by with_reducible assumption) | exact vi_ready (by with_reducible assumption) | exact vi_run (by with_reducible assumption) (by with_reducible assumption) | exact vi_run (by with_reducible assumption) (vi_runner _) | exact vi_mTask (by with_reducible assumption) | exact vi_mThing (by with_reducible assumption) | exact vi_mdecl (by with_reducible assumption) | exact vi_mready (by with_reducible assumption))
    refine va_iald hx hb hK hP 9 0 mw_9 rfl hi4 d_M_holder_17 ?_
    refine W.eq (g2 := F0 m 18 ls [.int (sw1 9 p1.toNatClampNeg)]) rfl ?_
    refine lv_goto (tgt := 22) hx hb d_M_holder_18 (by decide) ?_
    exact W.iret (v := (sw1 9 p1.toNatClampNeg)) hx hb hr (fun t ht _ => ⟨⟨(sw1 9 p1.toNatClampNeg), (), rfl, by rw [he], (by rw [he]; show va_P _ _ _ t.heap; rw [ht]; exact hP)⟩, hS.F ht⟩) hS.2.2 d_M_holder_22
set_option maxHeartbeats 4000000 in
set_option maxRecDepth 100000 in
theorem c_M_spent (l : Launch) (D : va_G) (cI cT cH : ClassId) (ad : Nat → Nat) (st : St) (p1 : Int32) (p2 : Int32) (hI : ∀ i j, i < 13 → j < 13 → ad i = ad j → i = j) : Met l y_M_spent w_M_spent { frames := 2, cells := 0, slots := 0, locals := 41 } (va_Pc [.ref (ad 0), .int p1, .int p2] (gW D cI cT cH (mw cI ad st))) (qI D (f_M_spent st p1 p2).1 (mw cI ad ((f_M_spent st p1 p2).2)) (inA ad 13)) 0 0 (inA ad 13) := by
  refine Met.ofW (cc := b_M_spent) (maxL := 3) (ret := (some .int)) (by decide +kernel) rfl ?_
  intro p e s m args below meth c s₁ B hml hv
  obtain ⟨rfl, hP, hK, hN⟩ := hv
  have hx := B.exec
  have hb := B.bytes
  have hr := B.returns
  have hlocks := B.notSynchronized
  have hts0 := atoms_spec (ws := w_M_spent) B.pre
  have hts : ∀ w ∈ TT, w.before [.ref (ad 0), .int p1, .int p2].toArray s = true := fun w h => hts0 w (List.mem_cons_of_mem _ h)
  have hown : s.vm.findClass R_M = some m.cls := findClass_of_methodNamed B.named
  have hS : va_S (inA ad 13) s.heap s.heap [] := va_S.rf
  have hl := lv_entry ([.ref (ad 0), .int p1, .int p2]) (n := 3) (Nat.le_of_ble_eq_true rfl)
  rw [lg_entry_eq]
  generalize (lg_sl ([.ref (ad 0), .int p1, .int p2]) ++ List.replicate (3 - (lg_sl ([.ref (ad 0), .int p1, .int p2])).length) Slot.unset).toArray = ls at hl ⊢
  have hl : lv_has ls 3 [(0, .ref (ad 0)), (1, .int p1), (2, .int p2)] := hl
  have he := f_M_spent.eq_1 st p1 p2
  refine lv_aload_n hx hb d_M_spent_0 rfl (lv_at hl 0 rfl) ?_
  refine lv_iconst (v := 0) hx hb d_M_spent_1 (by decide) ?_
  refine va_put (D := D) (ci := 4) (v := .int 0) (ty := .int) (C := R_M) (T := F_M) (N := 18) hx hb hts in_M ft_M ft_M_ok n_M hown hK hP (mw_D hI) hS 0 mw_0 rfl 0 (by decide) (hts _ k_434) (fun _ h9 => h9) rfl (by decide +kernel) rfl rfl (Nat.le_of_ble_eq_true rfl) d_M_spent_2 (fun H locs hP _ hS => ?_)
  rw [mp_0 (k := 0) (by decide)] at hP
  generalize hw2 : wr st 0 0 0 = sw1 at hP he
  refine W.eq (g2 := F0 m 5 ls []) rfl ?_
  rw [f_M_spent_S5] at he
  refine lv_aload_n hx hb d_M_spent_5 rfl (lv_at hl 0 rfl) ?_
  refine lv_iload_n hx hb d_M_spent_6 rfl (lv_at hl 1 rfl) ?_
  refine rdV (As := [.int p1]) (rest := []) (na := 1) (c_M_isDeclared l D cI cT cH ad sw1 p1 ) ⟨hx, hb, hml, hown, hts⟩ k_500 k_502 k_12 k_28 k_503 (by decide +kernel) (by decide) (by decide) hP hK hN (q0 := 0) (ci := 4) mw_0 rfl rfl hl.1 rfl (Nat.le_of_ble_eq_true rfl) d_M_spent_7 ?_
  refine lv_if_ne (tgt := 15) hx hb d_M_spent_10 (by decide) (fun hc3 => ?_) (fun hc3 => ?_)
  · have he := he.trans (if_neg hc3)
    refine lv_iload_n hx hb d_M_spent_15 rfl (lv_at hl 2 rfl) ?_
    refine lv_if_ne (tgt := 28) hx hb d_M_spent_16 (by decide) (fun hc4 => ?_) (fun hc4 => ?_)
    · have he := he.trans (if_neg hc4)
      refine lv_iload_n hx hb d_M_spent_28 rfl (lv_at hl 2 rfl) ?_
      refine lv_iconst (v := 1) hx hb d_M_spent_29 (by decide) ?_
      refine lv_icmp_ne (tgt := 42) hx hb d_M_spent_30 (by decide) (fun hc5 => ?_) (fun hc5 => ?_)
      · have he := he.trans (if_neg hc5)
        refine lv_iconst (v := 0) hx hb d_M_spent_42 (by decide) ?_
        exact W.iret (v := 0) hx hb hr (fun t ht _ => ⟨⟨0, (), rfl, by rw [he], (by rw [he]; show va_P _ _ _ t.heap; rw [ht]; exact hP)⟩, hS.F ht⟩) hS.2.2 d_M_spent_43
      · have he := he.trans (if_pos hc5)
        refine lv_aload_n hx hb d_M_spent_33 rfl (lv_at hl 0 rfl) ?_
        refine va_get (D := D) (ci := 4) (v := .ref (ad 7)) (C := R_M) (T := F_M) (N := 18) hx hb hts in_M hown hK hP 0 mw_0 rfl 10 (by decide) (hts _ k_444) (fun _ h9 => h9) rfl d_M_spent_34 ?_
        refine lv_iload_n hx hb d_M_spent_37 rfl (lv_at hl 1 rfl) ?_
        have hi6 : vp_in p1 8 := (by first | with_reducible assumption | exact vi_isIn7 (by with_reducible assumption) | exact vi_isThing (by with_reducible assumption) | exact vi_decl (by with_reducible assumption) | exact vi_ready (by with_reducible assumption) | exact vi_run (by with_reducible assumption) (by with_reducible assumption) | exact vi_run (by with_reducible assumption) (vi_runner _) | exact vi_mTask (by with_reducible assumption) | exact vi_mThing (by with_reducible assumption) | exact vi_mdecl (by with_reducible assumption) | exact vi_mready (by with_reducible assumption))
        refine va_iald hx hb hK hP 7 0 mw_7 rfl hi6 d_M_spent_38 ?_
        refine W.eq (g2 := F0 m 39 ls [.int (sw1 7 p1.toNatClampNeg)]) rfl ?_
        refine lv_goto (tgt := 43) hx hb d_M_spent_39 (by decide) ?_
        exact W.iret (v := (sw1 7 p1.toNatClampNeg)) hx hb hr (fun t ht _ => ⟨⟨(sw1 7 p1.toNatClampNeg), (), rfl, by rw [he], (by rw [he]; show va_P _ _ _ t.heap; rw [ht]; exact hP)⟩, hS.F ht⟩) hS.2.2 d_M_spent_43
    · have he := he.trans (if_pos hc4)
      refine lv_aload_n hx hb d_M_spent_19 rfl (lv_at hl 0 rfl) ?_
      refine va_get (D := D) (ci := 4) (v := .ref (ad 6)) (C := R_M) (T := F_M) (N := 18) hx hb hts in_M hown hK hP 0 mw_0 rfl 9 (by decide) (hts _ k_443) (fun _ h9 => h9) rfl d_M_spent_20 ?_
      refine lv_iload_n hx hb d_M_spent_23 rfl (lv_at hl 1 rfl) ?_
      have hi7 : vp_in p1 8 := (by first | with_reducible assumption | exact vi_isIn7 (by with_reducible assumption) | exact vi_isThing (by with_reducible assumption) | exact vi_decl (by with_reducible assumption) | exact vi_ready (by with_reducible assumption) | exact vi_run (by with_reducible assumption) (by with_reducible assumption) | exact vi_run (by with_reducible assumption) (vi_runner _) | exact vi_mTask (by with_reducible assumption) | exact vi_mThing (by with_reducible assumption) | exact vi_mdecl (by with_reducible assumption) | exact vi_mready (by with_reducible assumption))
      refine va_iald hx hb hK hP 6 0 mw_6 rfl hi7 d_M_spent_24 ?_
      refine W.eq (g2 := F0 m 25 ls [.int (sw1 6 p1.toNatClampNeg)]) rfl ?_
      refine lv_goto (tgt := 43) hx hb d_M_spent_25 (by decide) ?_
      exact W.iret (v := (sw1 6 p1.toNatClampNeg)) hx hb hr (fun t ht _ => ⟨⟨(sw1 6 p1.toNatClampNeg), (), rfl, by rw [he], (by rw [he]; show va_P _ _ _ t.heap; rw [ht]; exact hP)⟩, hS.F ht⟩) hS.2.2 d_M_spent_43
  · have he := he.trans (if_pos hc3)
    refine lv_iconst (v := 0) hx hb d_M_spent_13 (by decide) ?_
    exact W.iret (v := 0) hx hb hr (fun t ht _ => ⟨⟨0, (), rfl, by rw [he], (by rw [he]; show va_P _ _ _ t.heap; rw [ht]; exact hP)⟩, hS.F ht⟩) hS.2.2 d_M_spent_14
