-- the law's start
theorem xr1 {own tx : String} {k : Nat} {A : Array Value} {s : State} (h1 : (Cond.stringRef own k tx).before A s = true) (h2 : (Cond.exactly (.string own k) "java/lang/String").before A s = true) : ∃ a, vk_R own k tx a s := by
  obtain ⟨a, _, _, _, h3, _⟩ := Cond.exactly_spec h2
  exact ⟨a, vk_R.of h1 h3⟩
theorem ci_blind {D : va_G} {cI cT cH : ClassId} {ws : va_W} {av : List Value} {sz : Nat} : FrameBlind (va_Pc av (fun U => U.heap.size = sz ∧ va_AO R_T U ∧ va_AO R_H U ∧ gW D cI cT cH ws U)) := fun a U g mk q => by
  obtain ⟨q0, qz, qT, qH, qP, qK, qN⟩ := q
  exact ⟨q0, qz, va_AO.moved (u := U) (U := U.calling g mk a) (Vm.Alike.refl U.vm) qT, va_AO.moved (u := U) (U := U.calling g mk a) (Vm.Alike.refl U.vm) qH, qP, va_K.moved (u := U) (U := U.calling g mk a) (Vm.Alike.refl U.vm) qK, nwA.same (u := U) rfl qN⟩
theorem ci_pre {D : va_G} {cI cT cH : ClassId} {ws : va_W} {av : List Value} {s : State} {H : Heap} (hOT : va_AO R_T s) (hOH : va_AO R_H s) (hP : va_P D cls9 ws H) (hK : va_K D cls9 (ty9 cI cT cH) s) (hN : nwA s) : ∀ U : State, U.heap = H → s.WarmedH U.vm → va_Pc av (fun U => U.heap.size = H.size ∧ va_AO R_T U ∧ va_AO R_H U ∧ gW D cI cT cH ws U) av.toArray U :=
  fun U hU hW => ⟨rfl, by rw [hU], va_AO.moved hW.alike hOT, va_AO.moved hW.alike hOH, by rw [hU]; exact hP, va_K.moved hW.alike hK, hN.warm hW⟩
theorem va_D0 {A : Nat → Prop} : va_D A [] := ⟨fun i j p q h => by simp at h, fun k q h => by simp at h⟩
theorem va_P0 {D : va_G} {cl : List vw_C} {H : Heap} : va_P D cl [] H := fun k q h => by simp at h
set_option maxHeartbeats 8000000 in
set_option maxRecDepth 100000 in
theorem whole_start {p : Program} {e : Env} {s : State} {m : MethodId} {below : List Frame} {meth : Method} {c : Code} (l : Launch) (hl0 : l.stackTraces = false) {b L : Nat} {xs : Nat → Int32} (hL : L ≤ 2560) (C0 : lw_At p s m meth c b L xs) : W p l e room_1 s m #[Value.ref b] below meth c s.heap [] 0 0 (lw_Z below #[Value.ref b] s) (entryFrame m ([Value.ref b] : List Value).toArray 7) := by
  have C1 := C0
  obtain ⟨hx, hb, hr, hml, hown, hts9, hX, hbl, hlocks, hgv⟩ := C0
  have hown : s.vm.findClass R_L = some m.cls := hown
  have hts : ∀ w ∈ TT, w.before #[Value.ref b] s = true := fun w h => hts9 w (List.mem_filter.mp h).1
  have hfl := flat_of_before _ hgv
  obtain ⟨c_C, i_C, k_C⟩ := u_known hts in_C (hts _ k_36)
  obtain ⟨c_T, i_T, k_T⟩ := u_known hts in_T (hts _ k_62)
  obtain ⟨c_H, i_H, k_H⟩ := u_known hts in_H (hts _ k_107)
  obtain ⟨c_N, i_N, k_N⟩ := u_known hts in_N (hts _ k_48)
  obtain ⟨c_M, i_M, k_M⟩ := u_known hts in_M (hts _ k_429)
  obtain ⟨cI, kI, compI, f1, f2, f3⟩ := Cond.arrayClass_spec (hts _ k_61)
  have hOT : va_AO R_T s := va_AO.of (hts9 (Cond.arrayOver (.object R_T)) (List.mem_of_getElem? (i := 44) (by decide +kernel)))
  obtain ⟨mT, cT, kT, t1T, -, t2T, t3T, t4T⟩ := Cond.arrayOver_spec hOT
  have hOH : va_AO R_H s := va_AO.of (hts9 (Cond.arrayOver (.object R_H)) (List.mem_of_getElem? (i := 46) (by decide +kernel)))
  obtain ⟨mH, cH, kH, t1H, -, t2H, t3H, t4H⟩ := Cond.arrayOver_spec hOH
  obtain ⟨D, hDe⟩ : ∃ z : va_G, z = (fun c => match c with | 0 => c_C | 1 => c_T | 2 => c_H | 3 => c_N | _ => c_M, fun c => match c with | 0 => i_C | 1 => i_T | 2 => i_H | 3 => i_N | _ => i_M) := ⟨_, rfl⟩
  have hK : va_K D cls9 (ty9 cI cT cH) s := by
    refine ⟨fun c q hq => ?_, fun k q hk => ?_⟩
    · have h5 : c < 5 := (List.getElem?_eq_some_iff.mp hq).1
      rw [hDe]
      rcases (show c = 0 ∨ c = 1 ∨ c = 2 ∨ c = 3 ∨ c = 4 by omega) with rfl | rfl | rfl | rfl | rfl <;> obtain rfl := Option.some.inj hq
      · exact k_C
      · exact k_T
      · exact k_H
      · exact k_N
      · exact k_M
    · have h3 : k < 3 := (List.getElem?_eq_some_iff.mp hk).1
      rcases (show k = 0 ∨ k = 1 ∨ k = 2 by omega) with rfl | rfl | rfl <;> obtain rfl := Option.some.inj hk
      · exact ⟨fun n z => ⟨fun k h => (by cases h), kI, f2, compI, f3⟩, f1⟩
      · exact ⟨fun n z => ⟨fun k h => (by cases h), kT, t2T, mT, t3T⟩, kT, mT, t2T, t3T, t1T, t4T⟩
      · exact ⟨fun n z => ⟨fun k h => (by cases h), kH, t2H, mH, t3H⟩, kH, mH, t2H, t3H, t1H, t4H⟩
  have hN : nwA s := fun w hw => va_Nw.of (by rcases nw9_kind w hw with ⟨_, _, _, _, _, _, rfl⟩ | ⟨_, _, _, _, rfl⟩ <;> rfl) (hts9 w (nw9_in w hw))
  have hZU : vx_Zq Bundle.tN "UNASSIGNED_STACK" Bundle.steD (lA s) s s.heap := vx_Zqof (hts9 (Cond.laysStatic Bundle.tN "UNASSIGNED_STACK" Bundle.steD) (List.mem_of_getElem? (i := 276) (by decide +kernel))) (hts9 (Cond.initialized Bundle.tN) (List.mem_of_getElem? (i := 29) (by decide +kernel))) (hfl (Cond.isRef (.static Bundle.tN "UNASSIGNED_STACK" Bundle.steD)) (by decide +kernel)) (fun a ha h => absurd ha (Nat.not_lt.mpr h))
  have hZN : vx_Zq Bundle.tN "SUPPRESSED_SENTINEL" Bundle.listD (lA s) s s.heap := vx_Zqof (hts9 (Cond.laysStatic Bundle.tN "SUPPRESSED_SENTINEL" Bundle.listD) (List.mem_of_getElem? (i := 278) (by decide +kernel))) (hts9 (Cond.initialized Bundle.tN) (List.mem_of_getElem? (i := 29) (by decide +kernel))) (hfl (Cond.isRef (.static Bundle.tN "SUPPRESSED_SENTINEL" Bundle.listD)) (by decide +kernel)) (fun a ha h => absurd ha (Nat.not_lt.mpr h))
  have hXR : xR s := by
    intro q hq
    simp only [xS9, List.mem_cons, List.not_mem_nil, or_false] at hq
    rcases hq with rfl | rfl | rfl | rfl | rfl | rfl | rfl | rfl | rfl | rfl | rfl | rfl
    · exact xr1 (hts9 (Cond.stringRef R_C 50 "sealed, or the task is declared") (List.mem_of_getElem? (i := 289) (by decide +kernel))) (hfl (Cond.exactly (.string R_C 50) "java/lang/String") (by decide +kernel))
    · exact xr1 (hts9 (Cond.stringRef R_C 61 "no such task, base, cost or period") (List.mem_of_getElem? (i := 325) (by decide +kernel))) (hfl (Cond.exactly (.string R_C 61) "java/lang/String") (by decide +kernel))
    · exact xr1 (hts9 (Cond.stringRef R_C 73 "sealed") (List.mem_of_getElem? (i := 339) (by decide +kernel))) (hfl (Cond.exactly (.string R_C 73) "java/lang/String") (by decide +kernel))
    · exact xr1 (hts9 (Cond.stringRef R_C 77 "the task is not declared, or no such thing or length") (List.mem_of_getElem? (i := 340) (by decide +kernel))) (hfl (Cond.exactly (.string R_C 77) "java/lang/String") (by decide +kernel))
    · exact xr1 (hts9 (Cond.stringRef R_C 97 "not sealed, or the task is ready") (List.mem_of_getElem? (i := 367) (by decide +kernel))) (hfl (Cond.exactly (.string R_C 97) "java/lang/String") (by decide +kernel))
    · exact xr1 (hts9 (Cond.stringRef R_C 99 "the task is not declared") (List.mem_of_getElem? (i := 368) (by decide +kernel))) (hfl (Cond.exactly (.string R_C 99) "java/lang/String") (by decide +kernel))
    · exact xr1 (hts9 (Cond.stringRef R_C 112 "not sealed, no task runs, or the thing is held") (List.mem_of_getElem? (i := 397) (by decide +kernel))) (hfl (Cond.exactly (.string R_C 112) "java/lang/String") (by decide +kernel))
    · exact xr1 (hts9 (Cond.stringRef R_C 117 "no such thing, or the task that runs may not use it") (List.mem_of_getElem? (i := 398) (by decide +kernel))) (hfl (Cond.exactly (.string R_C 117) "java/lang/String") (by decide +kernel))
    · exact xr1 (hts9 (Cond.stringRef R_C 140 "no task runs") (List.mem_of_getElem? (i := 406) (by decide +kernel))) (hfl (Cond.exactly (.string R_C 140) "java/lang/String") (by decide +kernel))
    · exact xr1 (hts9 (Cond.stringRef R_C 142 "not the thing that the task that runs took last") (List.mem_of_getElem? (i := 407) (by decide +kernel))) (hfl (Cond.exactly (.string R_C 142) "java/lang/String") (by decide +kernel))
    · exact xr1 (hts9 (Cond.stringRef R_C 144 "no task runs, or it holds something") (List.mem_of_getElem? (i := 415) (by decide +kernel))) (hfl (Cond.exactly (.string R_C 144) "java/lang/String") (by decide +kernel))
    · exact xr1 (hts9 (Cond.stringRef R_C 152 "the clock can not go on by that") (List.mem_of_getElem? (i := 423) (by decide +kernel))) (hfl (Cond.exactly (.string R_C 152) "java/lang/String") (by decide +kernel))
  have hXT : ∀ w ∈ xT9, va_Nw w s := fun w hw => va_Nw.of (xT9_on w hw) (hts9 w (xT9_in w hw))
  have hNc : va_Nc eA eS s := va_Nc.of (hfl (Cond.not (.castable eA eS)) (by decide +kernel))
  have hA : ∀ q : Nat, s.heap.size ≤ q → lA s q := fun _ h => h
  have hS : va_S (lA s) s.heap s.heap [] := va_S.rf
  have hl := lv_entry ([.ref b]) (n := 7) (Nat.le_of_ble_eq_true rfl)
  rw [lg_entry_eq]
  generalize (lg_sl ([.ref b]) ++ List.replicate (7 - (lg_sl ([.ref b])).length) Slot.unset).toArray = ls at hl ⊢
  have hl : lv_has ls 7 [(0, .ref b)] := hl
  refine va_new (ws := []) (ci := 0) (fs := [.null, .null, .null, .int 0, .int 0, .int 0, .int 0]) (C := R_C) (T := F_C) (N := 7) hx hb hts in_C ft_C ft_C_ok hown (hts _ k_35) (hts _ k_36) (hts _ k_24) hK va_P0 va_D0 hS hA rfl (fun j hj => by rcases (show j = 0 ∨ j = 1 ∨ j = 2 ∨ j = 3 ∨ j = 4 ∨ j = 5 ∨ j = 6 by omega) with rfl | rfl | rfl | rfl | rfl | rfl | rfl <;> rfl) (by decide) (by decide) d_L_law_0 (fun qc H hPn hDn hS => ?_)
  have hPq : va_P D cls9 [(qc, .inr (0, [.null, .null, .null, .int 0, .int 0, .int 0, .int 0]))] H := hPn
  have hAq : lA s qc := hDn.2 0 _ rfl
  refine lv_dup hx hb d_L_law_3 rfl ?_
  refine va_callv (va_runI (As := []) (rest := [.ref qc]) ⟨hx, hb, hml, hown, hts⟩ (c_C_init l D cI cT cH qc H.size) (cwI 0 hts (gI k_39) rfl rfl rfl (hts _ k_24) (hts _ k_37) (hts _ k_38) rfl (by decide +kernel) (by decide)) ⟨ci_blind, ci_pre hOT hOH hPq hK hN⟩ (g := F0 m 4 ls [.ref qc, .ref qc]) rfl rfl hl.1 rfl (lv_room (Nat.le_of_ble_eq_true rfl)) d_L_law_4 (by decide)) hS (fun x h1 h2 => h2.elim (fun z => by rw [z]; exact hAq) (fun z => absurd h1 (by omega))) (fun x h2 => h2.elim (fun z => by rw [z]; exact hAq) (fun z => hA x (Nat.le_trans hS.1 z))) (fun ad t H1 locs1 ht _ hpost hB hzz hkk hS1 => ?_)
  obtain ⟨hc0, hc1, hIC⟩ := hpost
  have hPc : va_P D cls9 (cw cI cT cH ad c00) H1 := by rw [← ht]; exact hB
  have hAC : ∀ i, i < 27 → s.heap.size ≤ ad i := fun i hi => (Nat.eq_zero_or_pos i).elim (fun z => by rw [z, hc0]; exact hAq) (fun z => Nat.le_trans hS.1 (hc1 i z hi))
  generalize H1 = H at hPc hS1 ⊢
  have hS := hS1
  rw [← hc0]
  refine lv_astore_n hx hb d_L_law_7 rfl hl (by decide) rfl (fun ls hl => ?_)
  have hl : lv_has ls 7 [(1, .ref (ad 0)), (0, .ref b)] := hl
  have hDc : va_D (lA s) (cw cI cT cH ad c00) := (cw_D hIC).weaken (fun k q hk h => by obtain ⟨j, hj, e⟩ := h; rw [e]; exact hAC j hj)
  generalize ad = aC at *
  refine va_new (ws := (cw cI cT cH aC c00)) (ci := 4) (fs := [.int 0, .int 0, .int 0, .int 0, .null, .null, .null, .null, .null, .null, .null, .null, .null, .null, .null, .int 0, .int 0, .null]) (C := R_M) (T := F_M) (N := 18) hx hb hts in_M ft_M ft_M_ok hown (hts _ k_428) (hts _ k_429) (hts _ k_28) hK hPc hDc hS hA rfl (fun j hj => by rcases (show j = 0 ∨ j = 1 ∨ j = 2 ∨ j = 3 ∨ j = 4 ∨ j = 5 ∨ j = 6 ∨ j = 7 ∨ j = 8 ∨ j = 9 ∨ j = 10 ∨ j = 11 ∨ j = 12 ∨ j = 13 ∨ j = 14 ∨ j = 15 ∨ j = 16 ∨ j = 17 by omega) with rfl | rfl | rfl | rfl | rfl | rfl | rfl | rfl | rfl | rfl | rfl | rfl | rfl | rfl | rfl | rfl | rfl | rfl <;> rfl) (by decide) (by decide) d_L_law_8 (fun qm H hPn hDn hS => ?_)
  have hlen : (cw cI cT cH aC c00).length = 27 := by simp [cw]
  have hlast : (cw cI cT cH aC c00 ++ [(qm, .inr (4, [.int 0, .int 0, .int 0, .int 0, .null, .null, .null, .null, .null, .null, .null, .null, .null, .null, .null, .int 0, .int 0, .null]))])[27]? = some (qm, .inr (4, [.int 0, .int 0, .int 0, .int 0, .null, .null, .null, .null, .null, .null, .null, .null, .null, .null, .null, .int 0, .int 0, .null])) := by rw [List.getElem?_append_right (by omega), hlen]; simp
  have hpref : ∀ (k : Nat) (x : Nat × va_E), (cw cI cT cH aC c00)[k]? = some x → (cw cI cT cH aC c00 ++ [(qm, .inr (4, [.int 0, .int 0, .int 0, .int 0, .null, .null, .null, .null, .null, .null, .null, .null, .null, .null, .null, .int 0, .int 0, .null]))])[k]? = some x := fun k x hk => by rw [List.getElem?_append_left (List.getElem?_eq_some_iff.mp hk).1]; exact hk
  have hPc : va_P D cls9 (cw cI cT cH aC c00) H := fun k x hk => hPn k x (hpref k x hk)
  have hPq : va_P D cls9 [(qm, .inr (4, [.int 0, .int 0, .int 0, .int 0, .null, .null, .null, .null, .null, .null, .null, .null, .null, .null, .null, .int 0, .int 0, .null]))] H := va_P1 (hPn 27 _ hlast)
  have hAq : lA s qm := hDn.2 27 _ hlast
  have hne : ∀ i, i < 27 → aC i ≠ qm := fun i hi z => by have a1 := hDn.1 i 27 _ _ (hpref i _ (cw_at hi)) hlast z; omega
  have hcs : ∀ i, i < 27 → aC i < H.size := fun i hi => (hPc i _ (cw_at hi)).lt
  refine lv_dup hx hb d_L_law_11 rfl ?_
  refine va_callv (va_runI (As := []) (rest := [.ref qm]) ⟨hx, hb, hml, hown, hts⟩ (c_M_init l D cI cT cH qm H.size) (cwI 0 hts (gI k_432) rfl rfl rfl (hts _ k_28) (hts _ k_430) (hts _ k_431) rfl (by decide +kernel) (by decide)) ⟨ct_blind, ct_pre hPq hK hN⟩ (g := F0 m 12 ls [.ref qm, .ref qm]) rfl rfl hl.1 rfl (lv_room (Nat.le_of_ble_eq_true rfl)) d_L_law_12 (by decide)) hS (fun x h1 h2 => h2.elim (fun z => by rw [z]; exact hAq) (fun z => absurd h1 (by omega))) (fun x h2 => h2.elim (fun z => by rw [z]; exact hAq) (fun z => hA x (Nat.le_trans hS.1 z))) (fun ad t H1 locs1 ht _ hpost hB hzz hkk hS1 => ?_)
  obtain ⟨hm0, hm1, hIM⟩ := hpost
  have hPm : va_P D cls9 (mw cI ad m00) H1 := by rw [← ht]; exact hB
  have hPc : va_P D cls9 (cw cI cT cH aC c00) H1 := hPc.kept (fun k x hk => hkk x.1 (hPc k x hk).lt (fun z => z.elim (fun z => by obtain ⟨a1, a2⟩ := cw_ad hk; exact hne k a1 (a2.symm.trans z)) (fun z => absurd (hPc k x hk).lt (by omega))))
  have hAM : ∀ j, j < 13 → s.heap.size ≤ ad j := fun j hj => (Nat.eq_zero_or_pos j).elim (fun z => by rw [z, hm0]; exact hAq) (fun z => Nat.le_trans hS.1 (hm1 j z hj))
  have hCM : ∀ i j, i < 27 → j < 13 → aC i ≠ ad j := fun i j hi hj z => (Nat.eq_zero_or_pos j).elim (fun w => hne i hi (by rw [z, w, hm0])) (fun w => absurd (hcs i hi) (by rw [z]; exact Nat.not_lt.mpr (hm1 j w hj)))
  generalize H1 = H at hPc hPm hS1 ⊢
  have hS := hS1
  rw [← hm0]
  refine lv_astore_n hx hb d_L_law_15 rfl hl (by decide) rfl (fun ls hl => ?_)
  have hl : lv_has ls 7 [(2, .ref (ad 0)), (1, .ref (aC 0)), (0, .ref b)] := hl
  generalize ad = aM at *
  have hDm : va_D (lA s) (mw cI aM m00) := (mw_D hIM).weaken (fun k q hk h => by obtain ⟨j, hj, e⟩ := h; rw [e]; exact hAM j hj)
  have hDb : va_D (lA s) (cw cI cT cH aC c00 ++ mw cI aM m00) := hDc.app hDm (fun i j p q h1 h2 z => by obtain ⟨a1, a2⟩ := cw_ad h1; obtain ⟨b1, b2⟩ := mw_ad h2; exact hCM i j a1 b1 (a2.symm.trans (z.trans b2)))
  have hK0 : va_K D cls9 [] s := hK.sub [] rfl
  refine lv_iconst (v := 1) hx hb d_L_law_16 (by decide) ?_
  refine va_newa (atype := .long) (ty := .long) (n := 1) (N' := 1) (a0 := (1, .inr (.inl (fun _ => 0)))) hx hb (hts _ k_616) rfl hK0 (hPc.app hPm) hDb hS hA (fun _ => rfl) (by decide) (by decide) (by decide) (by decide) (by decide) d_L_law_17 (fun oa cL H hKL hPn hDn hS => ?_)
  have hlen2 : (cw cI cT cH aC c00 ++ mw cI aM m00).length = 40 := by simp [cw, mw]
  have hlast2 : ((cw cI cT cH aC c00 ++ mw cI aM m00) ++ [(oa, oE cL (fun _ => 0))])[40]? = some (oa, oE cL (fun _ => 0)) := by rw [List.getElem?_append_right (by omega), hlen2]; simp
  have hpc : ∀ (k : Nat) (x : Nat × va_E), (cw cI cT cH aC c00)[k]? = some x → ((cw cI cT cH aC c00 ++ mw cI aM m00) ++ [(oa, oE cL (fun _ => 0))])[k]? = some x := fun k x hk => by have a1 := (cw_ad hk).1; rw [List.getElem?_append_left (by omega), List.getElem?_append_left (by omega)]; exact hk
  have hpm : ∀ (k : Nat) (x : Nat × va_E), (mw cI aM m00)[k]? = some x → ((cw cI cT cH aC c00 ++ mw cI aM m00) ++ [(oa, oE cL (fun _ => 0))])[27 + k]? = some x := fun k x hk => by have a1 := (mw_ad hk).1; rw [List.getElem?_append_left (by omega), List.getElem?_append_right (by omega), hlen, show 27 + k - 27 = k by omega]; exact hk
  have hPc : va_P D cls9 (cw cI cT cH aC c00) H := fun k x hk => hPn k x (hpc k x hk)
  have hPm : va_P D cls9 (mw cI aM m00) H := fun k x hk => hPn _ x (hpm k x hk)
  have hPo : va_P D cls9 [(oa, oE cL (fun _ => 0))] H := va_P1 (hPn 40 _ hlast2)
  have hAo : s.heap.size ≤ oa := hDn.2 40 _ hlast2
  have hCo : ∀ i, i < 27 → aC i ≠ oa := fun i hi z => by have a1 := hDn.1 i 40 _ _ (hpc i _ (cw_at hi)) hlast2 z; omega
  have hMo : ∀ j, j < 13 → aM j ≠ oa := fun j hj z => by have a1 := hDn.1 (27 + j) 40 _ _ (hpm j _ (mw_at hj)) hlast2 z; omega
  refine lv_astore_n hx hb d_L_law_19 rfl hl (by decide) rfl (fun ls hl => ?_)
  have hl : lv_has ls 7 [(3, .ref oa), (2, .ref (aM 0)), (1, .ref (aC 0)), (0, .ref b)] := hl
  refine lv_iconst (v := 0) hx hb d_L_law_20 (by decide) ?_
  refine lv_istore hx hb d_L_law_21 hl (by decide) rfl (fun ls hl => ?_)
  refine W.widen (k := 41 + 0) (n := 396 + 6 * 0) (by decide) (by decide) ?_
  exact lw_loop l hl0 hL C1 (D := D) (cI := cI) (cT := cT) (cH := cH) (cL := cL) (aC := aC) (aM := aM) (oa := oa) ⟨hK, hKL, hN, hZU, hZN, hXR, hXT, hNc, hIC, hIM, hCM, hCo, hMo, hAC, hAM, hAo⟩ 512 0 c00 m00 (fun _ => 0) H _ ls (by omega) (by omega) rR_00 hl ⟨hPc, hPm, hPo, hS⟩
