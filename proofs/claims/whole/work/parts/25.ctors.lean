-- constructors
theorem va_D1 {A : Nat → Prop} {a : Nat} {e : va_E} (h : A a) : va_D A [(a, e)] := by
  refine ⟨fun i j p q h1 h2 _ => ?_, fun k q hk => ?_⟩
  · have a1 : i < 1 := (List.getElem?_eq_some_iff.mp h1).1
    have a2 : j < 1 := (List.getElem?_eq_some_iff.mp h2).1
    omega
  · have a1 : k < 1 := (List.getElem?_eq_some_iff.mp hk).1
    have a2 : k = 0 := by omega
    subst a2
    obtain rfl := Option.some.inj hk
    exact h
theorem raI {D : va_G} {cA cI cT cH : ClassId} {s : State} (h2 : va_K D cls9 (ty9 cI cT cH ++ [(cA, .int)]) s) (h : va_K D cls9 (ty9 cI cT cH) s)   : cA = cI := by
  have h3 := (h2.2 3 _ rfl).2
  have h4 := (h.2 0 _ rfl).2
  exact Option.some.inj (h3.symm.trans h4)
set_option maxHeartbeats 4000000 in
set_option maxRecDepth 100000 in
theorem c_T_init (l : Launch) (D : va_G) (cI cT cH : ClassId) (h0 sz : Nat) : Met l y_T_init w_T_init { frames := 1, cells := 1, slots := 6, locals := 12 } (va_Pc [.ref h0] (fun U => U.heap.size = sz ∧ gW D cI cT cH [(h0, .inr (1, [.int 0, .int 0, .int 0, .null, .int 0, .int 0, .int 0, .int 0, .int 0, .int 0]))] U)) (va_Qv (S := Nat) (fun q => q ≠ h0 ∧ sz ≤ q) (fun q t => va_P D cls9 [(h0, .inr (1, [.int 0, .int 0, .int 0, .ref q, .int 0, .int 0, .int 0, .int (-1), .int 0, .int 0])), (q, .inl (cI, 6, .inl (fun _ => 0)))] t.heap) (fun q => q = h0 ∨ sz ≤ q)) 1 6 (fun q => q = h0 ∨ sz ≤ q) := by
  refine Met.ofW (cc := b_T_init) (maxL := 1) (ret := none) (by decide +kernel) rfl ?_
  intro p e s m args below meth c s₁ B hml hv
  obtain ⟨rfl, hsz, hP, hK, hN⟩ := hv
  have hx := B.exec
  have hb := B.bytes
  have hr := B.returns
  have hlocks := B.notSynchronized
  have hts0 := atoms_spec (ws := w_T_init) B.pre
  have hts : ∀ w ∈ TT, w.before [Value.ref h0].toArray s = true := fun w h => hts0 w (List.mem_cons_of_mem _ h)
  have hown : s.vm.findClass R_T = some m.cls := findClass_of_methodNamed B.named
  have hin : meth.name = "<init>" := (name_of_methodNamed B.named B.method).1
  subst hsz
  generalize hAe : (fun q => q = h0 ∨ s.heap.size ≤ q) = A
  have hA : ∀ q : Nat, s.heap.size ≤ q → A q := fun q h => by rw [← hAe]; exact Or.inr h
  have hAn : ∀ q : Nat, A q → q = h0 ∨ s.heap.size ≤ q := fun q h => by rw [← hAe] at h; exact h
  have hD : va_D A [(h0, .inr (1, [.int 0, .int 0, .int 0, .null, .int 0, .int 0, .int 0, .int 0, .int 0, .int 0]))] := va_D1 (by rw [← hAe]; exact Or.inl rfl)
  have hS : va_S A s.heap s.heap [] := va_S.rf
  have hl := lv_entry ([.ref h0]) (n := 1) (Nat.le_of_ble_eq_true rfl)
  rw [lg_entry_eq]
  generalize (lg_sl ([.ref h0]) ++ List.replicate (1 - (lg_sl ([.ref h0])).length) Slot.unset).toArray = ls at hl ⊢
  have hl : lv_has ls 1 [(0, .ref h0)] := hl
  refine lv_aload_n hx hb d_T_init_0 rfl (lv_at hl 0 rfl) ?_
  refine W.objInit hx hb hown (hts _ k_66) (hts _ k_41) (hts _ k_42) rfl (by rw [hml]; exact hl.1) rfl d_T_init_1 (Nat.le_of_ble_eq_true rfl) (Nat.le_of_ble_eq_true rfl) ?_
  refine W.eq (g2 := F0 m 4 ls []) rfl ?_
  refine lv_aload_n hx hb d_T_init_4 rfl (lv_at hl 0 rfl) ?_
  refine lv_iconst (v := 0) hx hb d_T_init_5 (by decide) ?_
  refine va_put (D := D) (ci := 1) (v := .int 0) (ty := .int) (C := R_T) (T := F_T) (N := 10) hx hb hts in_T ft_T ft_T_ok n_T hown hK hP hD hS 0 rfl rfl 0 (by decide) (hts _ k_67) (fun _ h9 => h9) rfl (by decide +kernel) rfl rfl (Nat.le_of_ble_eq_true rfl) d_T_init_6 (fun H locs hP hD hS => ?_)
  have hP : va_P D cls9 [(h0, .inr (1, [.int 0, .int 0, .int 0, .null, .int 0, .int 0, .int 0, .int 0, .int 0, .int 0]))] H := hP
  have hD : va_D A [(h0, .inr (1, [.int 0, .int 0, .int 0, .null, .int 0, .int 0, .int 0, .int 0, .int 0, .int 0]))] := hD
  refine lv_aload_n hx hb d_T_init_9 rfl (lv_at hl 0 rfl) ?_
  refine lv_iconst (v := 0) hx hb d_T_init_10 (by decide) ?_
  refine va_put (D := D) (ci := 1) (v := .int 0) (ty := .int) (C := R_T) (T := F_T) (N := 10) hx hb hts in_T ft_T ft_T_ok n_T hown hK hP hD hS 0 rfl rfl 1 (by decide) (hts _ k_69) (fun _ h9 => h9) rfl (by decide +kernel) rfl rfl (Nat.le_of_ble_eq_true rfl) d_T_init_11 (fun H locs hP hD hS => ?_)
  have hP : va_P D cls9 [(h0, .inr (1, [.int 0, .int 0, .int 0, .null, .int 0, .int 0, .int 0, .int 0, .int 0, .int 0]))] H := hP
  have hD : va_D A [(h0, .inr (1, [.int 0, .int 0, .int 0, .null, .int 0, .int 0, .int 0, .int 0, .int 0, .int 0]))] := hD
  refine lv_aload_n hx hb d_T_init_14 rfl (lv_at hl 0 rfl) ?_
  refine lv_iconst (v := 0) hx hb d_T_init_15 (by decide) ?_
  refine va_put (D := D) (ci := 1) (v := .int 0) (ty := .int) (C := R_T) (T := F_T) (N := 10) hx hb hts in_T ft_T ft_T_ok n_T hown hK hP hD hS 0 rfl rfl 2 (by decide) (hts _ k_71) (fun _ h9 => h9) rfl (by decide +kernel) rfl rfl (Nat.le_of_ble_eq_true rfl) d_T_init_16 (fun H locs hP hD hS => ?_)
  have hP : va_P D cls9 [(h0, .inr (1, [.int 0, .int 0, .int 0, .null, .int 0, .int 0, .int 0, .int 0, .int 0, .int 0]))] H := hP
  have hD : va_D A [(h0, .inr (1, [.int 0, .int 0, .int 0, .null, .int 0, .int 0, .int 0, .int 0, .int 0, .int 0]))] := hD
  refine lv_aload_n hx hb d_T_init_19 rfl (lv_at hl 0 rfl) ?_
  refine lv_bipush (v := 6) hx hb d_T_init_20 (by decide) ?_
  refine va_newa (atype := .int) (ty := .int) (n := 6) (N' := 6) (a0 := (6, .inl (fun _ => 0))) hx hb (hts _ k_61) rfl hK hP hD hS hA (fun _ => rfl) (by decide) (by decide) (by decide) (Nat.le_of_ble_eq_true rfl) (Nat.le_of_ble_eq_true rfl) d_T_init_22 (fun q22 cA H hK2 hP hD hS => ?_)
  rw [raI hK2 hK] at hP hD
  have hzq22 : A q22 := hD.2 1 _ rfl
  have hP : va_P D cls9 [(h0, .inr (1, [.int 0, .int 0, .int 0, .null, .int 0, .int 0, .int 0, .int 0, .int 0, .int 0])), (q22, .inl (cI, 6, .inl (fun _ => 0)))] H := hP
  have hD : va_D A [(h0, .inr (1, [.int 0, .int 0, .int 0, .null, .int 0, .int 0, .int 0, .int 0, .int 0, .int 0])), (q22, .inl (cI, 6, .inl (fun _ => 0)))] := hD
  refine W.widen (k := 1) (n := 6) (by omega) (by omega) ?_
  refine va_putF (D := D) (ci := 1) (v := .ref q22) (ty := .array .int) (C := R_T) (T := F_T) (N := 10) hx hb hts in_T ft_T ft_T_ok n_T hown hK hP hD hS 0 rfl rfl 3 (by decide) (hts _ k_73) (fun _ h9 => h9) rfl hin rfl (by decide +kernel) rfl rfl (Nat.le_of_ble_eq_true rfl) d_T_init_24 (fun H locs hP hD hS => ?_)
  have hP : va_P D cls9 [(h0, .inr (1, [.int 0, .int 0, .int 0, .ref q22, .int 0, .int 0, .int 0, .int 0, .int 0, .int 0])), (q22, .inl (cI, 6, .inl (fun _ => 0)))] H := hP
  have hD : va_D A [(h0, .inr (1, [.int 0, .int 0, .int 0, .ref q22, .int 0, .int 0, .int 0, .int 0, .int 0, .int 0])), (q22, .inl (cI, 6, .inl (fun _ => 0)))] := hD
  refine lv_aload_n hx hb d_T_init_27 rfl (lv_at hl 0 rfl) ?_
  refine lv_iconst (v := 0) hx hb d_T_init_28 (by decide) ?_
  refine va_put (D := D) (ci := 1) (v := .int 0) (ty := .boolean) (C := R_T) (T := F_T) (N := 10) hx hb hts in_T ft_T ft_T_ok n_T hown hK hP hD hS 0 rfl rfl 4 (by decide) (hts _ k_75) (fun _ h9 => h9) rfl (by decide +kernel) rfl rfl (Nat.le_of_ble_eq_true rfl) d_T_init_29 (fun H locs hP hD hS => ?_)
  have hP : va_P D cls9 [(h0, .inr (1, [.int 0, .int 0, .int 0, .ref q22, .int 0, .int 0, .int 0, .int 0, .int 0, .int 0])), (q22, .inl (cI, 6, .inl (fun _ => 0)))] H := hP
  have hD : va_D A [(h0, .inr (1, [.int 0, .int 0, .int 0, .ref q22, .int 0, .int 0, .int 0, .int 0, .int 0, .int 0])), (q22, .inl (cI, 6, .inl (fun _ => 0)))] := hD
  refine lv_aload_n hx hb d_T_init_32 rfl (lv_at hl 0 rfl) ?_
  refine lv_iconst (v := 0) hx hb d_T_init_33 (by decide) ?_
  refine va_put (D := D) (ci := 1) (v := .int 0) (ty := .int) (C := R_T) (T := F_T) (N := 10) hx hb hts in_T ft_T ft_T_ok n_T hown hK hP hD hS 0 rfl rfl 5 (by decide) (hts _ k_77) (fun _ h9 => h9) rfl (by decide +kernel) rfl rfl (Nat.le_of_ble_eq_true rfl) d_T_init_34 (fun H locs hP hD hS => ?_)
  have hP : va_P D cls9 [(h0, .inr (1, [.int 0, .int 0, .int 0, .ref q22, .int 0, .int 0, .int 0, .int 0, .int 0, .int 0])), (q22, .inl (cI, 6, .inl (fun _ => 0)))] H := hP
  have hD : va_D A [(h0, .inr (1, [.int 0, .int 0, .int 0, .ref q22, .int 0, .int 0, .int 0, .int 0, .int 0, .int 0])), (q22, .inl (cI, 6, .inl (fun _ => 0)))] := hD
  refine lv_aload_n hx hb d_T_init_37 rfl (lv_at hl 0 rfl) ?_
  refine lv_iconst (v := 0) hx hb d_T_init_38 (by decide) ?_
  refine va_put (D := D) (ci := 1) (v := .int 0) (ty := .int) (C := R_T) (T := F_T) (N := 10) hx hb hts in_T ft_T ft_T_ok n_T hown hK hP hD hS 0 rfl rfl 6 (by decide) (hts _ k_79) (fun _ h9 => h9) rfl (by decide +kernel) rfl rfl (Nat.le_of_ble_eq_true rfl) d_T_init_39 (fun H locs hP hD hS => ?_)
  have hP : va_P D cls9 [(h0, .inr (1, [.int 0, .int 0, .int 0, .ref q22, .int 0, .int 0, .int 0, .int 0, .int 0, .int 0])), (q22, .inl (cI, 6, .inl (fun _ => 0)))] H := hP
  have hD : va_D A [(h0, .inr (1, [.int 0, .int 0, .int 0, .ref q22, .int 0, .int 0, .int 0, .int 0, .int 0, .int 0])), (q22, .inl (cI, 6, .inl (fun _ => 0)))] := hD
  refine lv_aload_n hx hb d_T_init_42 rfl (lv_at hl 0 rfl) ?_
  refine lv_iconst (v := (-1)) hx hb d_T_init_43 (by decide) ?_
  refine va_put (D := D) (ci := 1) (v := .int (-1)) (ty := .int) (C := R_T) (T := F_T) (N := 10) hx hb hts in_T ft_T ft_T_ok n_T hown hK hP hD hS 0 rfl rfl 7 (by decide) (hts _ k_80) (fun _ h9 => h9) rfl (by decide +kernel) rfl rfl (Nat.le_of_ble_eq_true rfl) d_T_init_44 (fun H locs hP hD hS => ?_)
  have hP : va_P D cls9 [(h0, .inr (1, [.int 0, .int 0, .int 0, .ref q22, .int 0, .int 0, .int 0, .int (-1), .int 0, .int 0])), (q22, .inl (cI, 6, .inl (fun _ => 0)))] H := hP
  have hD : va_D A [(h0, .inr (1, [.int 0, .int 0, .int 0, .ref q22, .int 0, .int 0, .int 0, .int (-1), .int 0, .int 0])), (q22, .inl (cI, 6, .inl (fun _ => 0)))] := hD
  refine lv_aload_n hx hb d_T_init_47 rfl (lv_at hl 0 rfl) ?_
  refine lv_iconst (v := 0) hx hb d_T_init_48 (by decide) ?_
  refine va_put (D := D) (ci := 1) (v := .int 0) (ty := .int) (C := R_T) (T := F_T) (N := 10) hx hb hts in_T ft_T ft_T_ok n_T hown hK hP hD hS 0 rfl rfl 8 (by decide) (hts _ k_82) (fun _ h9 => h9) rfl (by decide +kernel) rfl rfl (Nat.le_of_ble_eq_true rfl) d_T_init_49 (fun H locs hP hD hS => ?_)
  have hP : va_P D cls9 [(h0, .inr (1, [.int 0, .int 0, .int 0, .ref q22, .int 0, .int 0, .int 0, .int (-1), .int 0, .int 0])), (q22, .inl (cI, 6, .inl (fun _ => 0)))] H := hP
  have hD : va_D A [(h0, .inr (1, [.int 0, .int 0, .int 0, .ref q22, .int 0, .int 0, .int 0, .int (-1), .int 0, .int 0])), (q22, .inl (cI, 6, .inl (fun _ => 0)))] := hD
  refine lv_aload_n hx hb d_T_init_52 rfl (lv_at hl 0 rfl) ?_
  refine lv_iconst (v := 0) hx hb d_T_init_53 (by decide) ?_
  refine va_put (D := D) (ci := 1) (v := .int 0) (ty := .int) (C := R_T) (T := F_T) (N := 10) hx hb hts in_T ft_T ft_T_ok n_T hown hK hP hD hS 0 rfl rfl 9 (by decide) (hts _ k_84) (fun _ h9 => h9) rfl (by decide +kernel) rfl rfl (Nat.le_of_ble_eq_true rfl) d_T_init_54 (fun H locs hP hD hS => ?_)
  have hP : va_P D cls9 [(h0, .inr (1, [.int 0, .int 0, .int 0, .ref q22, .int 0, .int 0, .int 0, .int (-1), .int 0, .int 0])), (q22, .inl (cI, 6, .inl (fun _ => 0)))] H := hP
  have hD : va_D A [(h0, .inr (1, [.int 0, .int 0, .int 0, .ref q22, .int 0, .int 0, .int 0, .int (-1), .int 0, .int 0])), (q22, .inl (cI, 6, .inl (fun _ => 0)))] := hD
  have hne : q22 ≠ h0 := fun z => absurd (hD.1 1 0 _ _ rfl rfl z) (by decide)
  exact W.vret hx hb hr (fun t ht _ => ⟨⟨q22, rfl, ⟨hne, (hAn _ hzq22).resolve_left hne⟩, by show va_P _ _ _ t.heap; rw [ht]; exact hP⟩, hS.F ht⟩) hS.2.2 d_T_init_57
set_option maxHeartbeats 4000000 in
set_option maxRecDepth 100000 in
theorem c_H_init (l : Launch) (D : va_G) (cI cT cH : ClassId) (h0 sz : Nat) : Met l y_H_init w_H_init { frames := 1, cells := 0, slots := 0, locals := 12 } (va_Pc [.ref h0] (fun U => U.heap.size = sz ∧ gW D cI cT cH [(h0, .inr (2, [.int 0, .int 0, .int 0, .int 0]))] U)) (va_Qv (S := Unit) (fun _ => True) (fun _ t => va_P D cls9 [(h0, .inr (2, [.int 0, .int (-1), .int (-1), .int 0]))] t.heap) (fun q => q = h0 ∨ sz ≤ q)) 0 0 (fun q => q = h0 ∨ sz ≤ q) := by
  refine Met.ofW (cc := b_H_init) (maxL := 1) (ret := none) (by decide +kernel) rfl ?_
  intro p e s m args below meth c s₁ B hml hv
  obtain ⟨rfl, hsz, hP, hK, hN⟩ := hv
  have hx := B.exec
  have hb := B.bytes
  have hr := B.returns
  have hlocks := B.notSynchronized
  have hts0 := atoms_spec (ws := w_H_init) B.pre
  have hts : ∀ w ∈ TT, w.before [Value.ref h0].toArray s = true := fun w h => hts0 w (List.mem_cons_of_mem _ h)
  have hown : s.vm.findClass R_H = some m.cls := findClass_of_methodNamed B.named
  have hin : meth.name = "<init>" := (name_of_methodNamed B.named B.method).1
  subst hsz
  generalize hAe : (fun q => q = h0 ∨ s.heap.size ≤ q) = A
  have hA : ∀ q : Nat, s.heap.size ≤ q → A q := fun q h => by rw [← hAe]; exact Or.inr h
  have hAn : ∀ q : Nat, A q → q = h0 ∨ s.heap.size ≤ q := fun q h => by rw [← hAe] at h; exact h
  have hD : va_D A [(h0, .inr (2, [.int 0, .int 0, .int 0, .int 0]))] := va_D1 (by rw [← hAe]; exact Or.inl rfl)
  have hS : va_S A s.heap s.heap [] := va_S.rf
  have hl := lv_entry ([.ref h0]) (n := 1) (Nat.le_of_ble_eq_true rfl)
  rw [lg_entry_eq]
  generalize (lg_sl ([.ref h0]) ++ List.replicate (1 - (lg_sl ([.ref h0])).length) Slot.unset).toArray = ls at hl ⊢
  have hl : lv_has ls 1 [(0, .ref h0)] := hl
  refine lv_aload_n hx hb d_H_init_0 rfl (lv_at hl 0 rfl) ?_
  refine W.objInit hx hb hown (hts _ k_111) (hts _ k_41) (hts _ k_42) rfl (by rw [hml]; exact hl.1) rfl d_H_init_1 (Nat.le_of_ble_eq_true rfl) (Nat.le_of_ble_eq_true rfl) ?_
  refine W.eq (g2 := F0 m 4 ls []) rfl ?_
  refine lv_aload_n hx hb d_H_init_4 rfl (lv_at hl 0 rfl) ?_
  refine lv_iconst (v := 0) hx hb d_H_init_5 (by decide) ?_
  refine va_put (D := D) (ci := 2) (v := .int 0) (ty := .int) (C := R_H) (T := F_H) (N := 4) hx hb hts in_H ft_H ft_H_ok n_H hown hK hP hD hS 0 rfl rfl 0 (by decide) (hts _ k_112) (fun _ h9 => h9) rfl (by decide +kernel) rfl rfl (Nat.le_of_ble_eq_true rfl) d_H_init_6 (fun H locs hP hD hS => ?_)
  have hP : va_P D cls9 [(h0, .inr (2, [.int 0, .int 0, .int 0, .int 0]))] H := hP
  have hD : va_D A [(h0, .inr (2, [.int 0, .int 0, .int 0, .int 0]))] := hD
  refine lv_aload_n hx hb d_H_init_9 rfl (lv_at hl 0 rfl) ?_
  refine lv_iconst (v := (-1)) hx hb d_H_init_10 (by decide) ?_
  refine va_put (D := D) (ci := 2) (v := .int (-1)) (ty := .int) (C := R_H) (T := F_H) (N := 4) hx hb hts in_H ft_H ft_H_ok n_H hown hK hP hD hS 0 rfl rfl 1 (by decide) (hts _ k_114) (fun _ h9 => h9) rfl (by decide +kernel) rfl rfl (Nat.le_of_ble_eq_true rfl) d_H_init_11 (fun H locs hP hD hS => ?_)
  have hP : va_P D cls9 [(h0, .inr (2, [.int 0, .int (-1), .int 0, .int 0]))] H := hP
  have hD : va_D A [(h0, .inr (2, [.int 0, .int (-1), .int 0, .int 0]))] := hD
  refine lv_aload_n hx hb d_H_init_14 rfl (lv_at hl 0 rfl) ?_
  refine lv_iconst (v := (-1)) hx hb d_H_init_15 (by decide) ?_
  refine va_put (D := D) (ci := 2) (v := .int (-1)) (ty := .int) (C := R_H) (T := F_H) (N := 4) hx hb hts in_H ft_H ft_H_ok n_H hown hK hP hD hS 0 rfl rfl 2 (by decide) (hts _ k_116) (fun _ h9 => h9) rfl (by decide +kernel) rfl rfl (Nat.le_of_ble_eq_true rfl) d_H_init_16 (fun H locs hP hD hS => ?_)
  have hP : va_P D cls9 [(h0, .inr (2, [.int 0, .int (-1), .int (-1), .int 0]))] H := hP
  have hD : va_D A [(h0, .inr (2, [.int 0, .int (-1), .int (-1), .int 0]))] := hD
  refine lv_aload_n hx hb d_H_init_19 rfl (lv_at hl 0 rfl) ?_
  refine lv_iconst (v := 0) hx hb d_H_init_20 (by decide) ?_
  refine va_put (D := D) (ci := 2) (v := .int 0) (ty := .int) (C := R_H) (T := F_H) (N := 4) hx hb hts in_H ft_H ft_H_ok n_H hown hK hP hD hS 0 rfl rfl 3 (by decide) (hts _ k_118) (fun _ h9 => h9) rfl (by decide +kernel) rfl rfl (Nat.le_of_ble_eq_true rfl) d_H_init_21 (fun H locs hP hD hS => ?_)
  have hP : va_P D cls9 [(h0, .inr (2, [.int 0, .int (-1), .int (-1), .int 0]))] H := hP
  have hD : va_D A [(h0, .inr (2, [.int 0, .int (-1), .int (-1), .int 0]))] := hD
  exact W.vret hx hb hr (fun t ht _ => ⟨⟨(), rfl, trivial, by show va_P _ _ _ t.heap; rw [ht]; exact hP⟩, hS.F ht⟩) hS.2.2 d_H_init_24
set_option maxHeartbeats 4000000 in
set_option maxRecDepth 100000 in
theorem c_N_init (l : Launch) (D : va_G) (cI cT cH : ClassId) (h0 sz : Nat) : Met l y_N_init w_N_init { frames := 1, cells := 1, slots := 40, locals := 12 } (va_Pc [.ref h0] (fun U => U.heap.size = sz ∧ gW D cI cT cH [(h0, .inr (3, [.null, .int 0]))] U)) (va_Qv (S := Nat) (fun q => q ≠ h0 ∧ sz ≤ q) (fun q t => va_P D cls9 [(h0, .inr (3, [.ref q, .int 0])), (q, .inl (cI, 40, .inl (fun _ => 0)))] t.heap) (fun q => q = h0 ∨ sz ≤ q)) 1 40 (fun q => q = h0 ∨ sz ≤ q) := by
  refine Met.ofW (cc := b_N_init) (maxL := 1) (ret := none) (by decide +kernel) rfl ?_
  intro p e s m args below meth c s₁ B hml hv
  obtain ⟨rfl, hsz, hP, hK, hN⟩ := hv
  have hx := B.exec
  have hb := B.bytes
  have hr := B.returns
  have hlocks := B.notSynchronized
  have hts0 := atoms_spec (ws := w_N_init) B.pre
  have hts : ∀ w ∈ TT, w.before [Value.ref h0].toArray s = true := fun w h => hts0 w (List.mem_cons_of_mem _ h)
  have hown : s.vm.findClass R_N = some m.cls := findClass_of_methodNamed B.named
  have hin : meth.name = "<init>" := (name_of_methodNamed B.named B.method).1
  subst hsz
  generalize hAe : (fun q => q = h0 ∨ s.heap.size ≤ q) = A
  have hA : ∀ q : Nat, s.heap.size ≤ q → A q := fun q h => by rw [← hAe]; exact Or.inr h
  have hAn : ∀ q : Nat, A q → q = h0 ∨ s.heap.size ≤ q := fun q h => by rw [← hAe] at h; exact h
  have hD : va_D A [(h0, .inr (3, [.null, .int 0]))] := va_D1 (by rw [← hAe]; exact Or.inl rfl)
  have hS : va_S A s.heap s.heap [] := va_S.rf
  have hl := lv_entry ([.ref h0]) (n := 1) (Nat.le_of_ble_eq_true rfl)
  rw [lg_entry_eq]
  generalize (lg_sl ([.ref h0]) ++ List.replicate (1 - (lg_sl ([.ref h0])).length) Slot.unset).toArray = ls at hl ⊢
  have hl : lv_has ls 1 [(0, .ref h0)] := hl
  refine lv_aload_n hx hb d_N_init_0 rfl (lv_at hl 0 rfl) ?_
  refine W.objInit hx hb hown (hts _ k_52) (hts _ k_41) (hts _ k_42) rfl (by rw [hml]; exact hl.1) rfl d_N_init_1 (Nat.le_of_ble_eq_true rfl) (Nat.le_of_ble_eq_true rfl) ?_
  refine W.eq (g2 := F0 m 4 ls []) rfl ?_
  refine lv_aload_n hx hb d_N_init_4 rfl (lv_at hl 0 rfl) ?_
  refine lv_bipush (v := 40) hx hb d_N_init_5 (by decide) ?_
  refine va_newa (atype := .int) (ty := .int) (n := 40) (N' := 40) (a0 := (40, .inl (fun _ => 0))) hx hb (hts _ k_61) rfl hK hP hD hS hA (fun _ => rfl) (by decide) (by decide) (by decide) (Nat.le_of_ble_eq_true rfl) (Nat.le_of_ble_eq_true rfl) d_N_init_7 (fun q7 cA H hK2 hP hD hS => ?_)
  rw [raI hK2 hK] at hP hD
  have hzq7 : A q7 := hD.2 1 _ rfl
  have hP : va_P D cls9 [(h0, .inr (3, [.null, .int 0])), (q7, .inl (cI, 40, .inl (fun _ => 0)))] H := hP
  have hD : va_D A [(h0, .inr (3, [.null, .int 0])), (q7, .inl (cI, 40, .inl (fun _ => 0)))] := hD
  refine W.widen (k := 1) (n := 40) (by omega) (by omega) ?_
  refine va_putF (D := D) (ci := 3) (v := .ref q7) (ty := .array .int) (C := R_N) (T := F_N) (N := 2) hx hb hts in_N ft_N ft_N_ok n_N hown hK hP hD hS 0 rfl rfl 0 (by decide) (hts _ k_53) (fun _ h9 => h9) rfl hin rfl (by decide +kernel) rfl rfl (Nat.le_of_ble_eq_true rfl) d_N_init_9 (fun H locs hP hD hS => ?_)
  have hP : va_P D cls9 [(h0, .inr (3, [.ref q7, .int 0])), (q7, .inl (cI, 40, .inl (fun _ => 0)))] H := hP
  have hD : va_D A [(h0, .inr (3, [.ref q7, .int 0])), (q7, .inl (cI, 40, .inl (fun _ => 0)))] := hD
  refine lv_aload_n hx hb d_N_init_12 rfl (lv_at hl 0 rfl) ?_
  refine lv_iconst (v := 0) hx hb d_N_init_13 (by decide) ?_
  refine va_put (D := D) (ci := 3) (v := .int 0) (ty := .int) (C := R_N) (T := F_N) (N := 2) hx hb hts in_N ft_N ft_N_ok n_N hown hK hP hD hS 0 rfl rfl 1 (by decide) (hts _ k_54) (fun _ h9 => h9) rfl (by decide +kernel) rfl rfl (Nat.le_of_ble_eq_true rfl) d_N_init_14 (fun H locs hP hD hS => ?_)
  have hP : va_P D cls9 [(h0, .inr (3, [.ref q7, .int 0])), (q7, .inl (cI, 40, .inl (fun _ => 0)))] H := hP
  have hD : va_D A [(h0, .inr (3, [.ref q7, .int 0])), (q7, .inl (cI, 40, .inl (fun _ => 0)))] := hD
  have hne : q7 ≠ h0 := fun z => absurd (hD.1 1 0 _ _ rfl rfl z) (by decide)
  exact W.vret hx hb hr (fun t ht _ => ⟨⟨q7, rfl, ⟨hne, (hAn _ hzq7).resolve_left hne⟩, by show va_P _ _ _ t.heap; rw [ht]; exact hP⟩, hS.F ht⟩) hS.2.2 d_N_init_17
/-- the reference's state while its constructor frees the things -/
def mi (i : Nat) : St := fun j k => if j = 9 ∧ k < i then (-1) else 0
def m00 : St := mi 6
theorem mi_0 : mi 0 = fun _ _ => 0 := by
  funext j k
  exact if_neg (by omega)
theorem mi_succ {i : Nat} : wr (mi i) 9 i (-1) = mi (i + 1) := by
  funext j k
  unfold wr mi
  by_cases h1 : j = 9 ∧ k = i
  · rw [if_pos h1, if_pos (by omega)]
  · rw [if_neg h1]
    by_cases h2 : j = 9 ∧ k < i
    · rw [if_pos h2, if_pos (by omega)]
    · rw [if_neg h2, if_neg (by omega)]
theorem mw_DA {cI : ClassId} {ad : Nat → Nat} {s : St} {A : Nat → Prop} (hI : ∀ i j, i < 13 → j < 13 → ad i = ad j → i = j) (hA : ∀ j, j < 13 → A (ad j)) : va_D A (mw cI ad s) :=
  (mw_D hI).weaken (fun k q hk h => by obtain ⟨j, hj, e⟩ := h; rw [e]; exact hA j hj)
set_option maxHeartbeats 4000000 in
set_option maxRecDepth 100000 in
theorem c_M_init (l : Launch) (D : va_G) (cI cT cH : ClassId) (h0 sz : Nat) : Met l y_M_init w_M_init { frames := 1, cells := 12, slots := 162, locals := 12 } (va_Pc [.ref h0] (fun U => U.heap.size = sz ∧ gW D cI cT cH [(h0, .inr (4, [.int 0, .int 0, .int 0, .int 0, .null, .null, .null, .null, .null, .null, .null, .null, .null, .null, .null, .int 0, .int 0, .null]))] U)) (va_Qv (S := Nat → Nat) (fun ad => ad 0 = h0 ∧ (∀ j, 0 < j → j < 13 → sz ≤ ad j) ∧ ∀ i j, i < 13 → j < 13 → ad i = ad j → i = j) (fun ad t => va_P D cls9 (mw cI ad m00) t.heap) (fun q => q = h0 ∨ sz ≤ q)) 12 162 (fun q => q = h0 ∨ sz ≤ q) := by
  refine Met.ofW (cc := b_M_init) (maxL := 2) (ret := none) (by decide +kernel) rfl ?_
  intro p e s m args below meth c s₁ B hml hv
  obtain ⟨rfl, hsz, hP, hK, hN⟩ := hv
  have hx := B.exec
  have hb := B.bytes
  have hr := B.returns
  have hlocks := B.notSynchronized
  have hts0 := atoms_spec (ws := w_M_init) B.pre
  have hts : ∀ w ∈ TT, w.before [Value.ref h0].toArray s = true := fun w h => hts0 w (List.mem_cons_of_mem _ h)
  have hown : s.vm.findClass R_M = some m.cls := findClass_of_methodNamed B.named
  have hin : meth.name = "<init>" := (name_of_methodNamed B.named B.method).1
  subst hsz
  generalize hAe : (fun q => q = h0 ∨ s.heap.size ≤ q) = A
  have hA : ∀ q : Nat, s.heap.size ≤ q → A q := fun q h => by rw [← hAe]; exact Or.inr h
  have hAn : ∀ q : Nat, A q → q = h0 ∨ s.heap.size ≤ q := fun q h => by rw [← hAe] at h; exact h
  have hD : va_D A [(h0, .inr (4, [.int 0, .int 0, .int 0, .int 0, .null, .null, .null, .null, .null, .null, .null, .null, .null, .null, .null, .int 0, .int 0, .null]))] := va_D1 (by rw [← hAe]; exact Or.inl rfl)
  have hS : va_S A s.heap s.heap [] := va_S.rf
  have hl := lv_entry ([.ref h0]) (n := 2) (Nat.le_of_ble_eq_true rfl)
  rw [lg_entry_eq]
  generalize (lg_sl ([.ref h0]) ++ List.replicate (2 - (lg_sl ([.ref h0])).length) Slot.unset).toArray = ls at hl ⊢
  have hl : lv_has ls 2 [(0, .ref h0)] := hl
  refine lv_aload_n hx hb d_M_init_0 rfl (lv_at hl 0 rfl) ?_
  refine W.objInit hx hb hown (hts _ k_433) (hts _ k_41) (hts _ k_42) rfl (by rw [hml]; exact hl.1) rfl d_M_init_1 (Nat.le_of_ble_eq_true rfl) (Nat.le_of_ble_eq_true rfl) ?_
  refine W.eq (g2 := F0 m 4 ls []) rfl ?_
  refine lv_aload_n hx hb d_M_init_4 rfl (lv_at hl 0 rfl) ?_
  refine lv_bipush (v := 8) hx hb d_M_init_5 (by decide) ?_
  refine va_newa (atype := .int) (ty := .int) (n := 8) (N' := 8) (a0 := (8, .inl (fun _ => 0))) hx hb (hts _ k_61) rfl hK hP hD hS hA (fun _ => rfl) (by decide) (by decide) (by decide) (Nat.le_of_ble_eq_true rfl) (Nat.le_of_ble_eq_true rfl) d_M_init_7 (fun q7 cA H hK2 hP hD hS => ?_)
  rw [raI hK2 hK] at hP hD
  have hzq7 : A q7 := hD.2 1 _ rfl
  have hP : va_P D cls9 [(h0, .inr (4, [.int 0, .int 0, .int 0, .int 0, .null, .null, .null, .null, .null, .null, .null, .null, .null, .null, .null, .int 0, .int 0, .null])), (q7, .inl (cI, 8, .inl (fun _ => 0)))] H := hP
  have hD : va_D A [(h0, .inr (4, [.int 0, .int 0, .int 0, .int 0, .null, .null, .null, .null, .null, .null, .null, .null, .null, .null, .null, .int 0, .int 0, .null])), (q7, .inl (cI, 8, .inl (fun _ => 0)))] := hD
  refine W.widen (k := 1) (n := 8) (by omega) (by omega) ?_
  refine va_putF (D := D) (ci := 4) (v := .ref q7) (ty := .array .int) (C := R_M) (T := F_M) (N := 18) hx hb hts in_M ft_M ft_M_ok n_M hown hK hP hD hS 0 rfl rfl 4 (by decide) (hts _ k_438) (fun _ h9 => h9) rfl hin rfl (by decide +kernel) rfl rfl (Nat.le_of_ble_eq_true rfl) d_M_init_9 (fun H locs hP hD hS => ?_)
  have hP : va_P D cls9 [(h0, .inr (4, [.int 0, .int 0, .int 0, .int 0, .ref q7, .null, .null, .null, .null, .null, .null, .null, .null, .null, .null, .int 0, .int 0, .null])), (q7, .inl (cI, 8, .inl (fun _ => 0)))] H := hP
  have hD : va_D A [(h0, .inr (4, [.int 0, .int 0, .int 0, .int 0, .ref q7, .null, .null, .null, .null, .null, .null, .null, .null, .null, .null, .int 0, .int 0, .null])), (q7, .inl (cI, 8, .inl (fun _ => 0)))] := hD
  refine lv_aload_n hx hb d_M_init_12 rfl (lv_at hl 0 rfl) ?_
  refine lv_bipush (v := 8) hx hb d_M_init_13 (by decide) ?_
  refine va_newa (atype := .int) (ty := .int) (n := 8) (N' := 8) (a0 := (8, .inl (fun _ => 0))) hx hb (hts _ k_61) rfl hK hP hD hS hA (fun _ => rfl) (by decide) (by decide) (by decide) (Nat.le_of_ble_eq_true rfl) (Nat.le_of_ble_eq_true rfl) d_M_init_15 (fun q15 cA H hK2 hP hD hS => ?_)
  rw [raI hK2 hK] at hP hD
  have hzq15 : A q15 := hD.2 2 _ rfl
  have hP : va_P D cls9 [(h0, .inr (4, [.int 0, .int 0, .int 0, .int 0, .ref q7, .null, .null, .null, .null, .null, .null, .null, .null, .null, .null, .int 0, .int 0, .null])), (q7, .inl (cI, 8, .inl (fun _ => 0))), (q15, .inl (cI, 8, .inl (fun _ => 0)))] H := hP
  have hD : va_D A [(h0, .inr (4, [.int 0, .int 0, .int 0, .int 0, .ref q7, .null, .null, .null, .null, .null, .null, .null, .null, .null, .null, .int 0, .int 0, .null])), (q7, .inl (cI, 8, .inl (fun _ => 0))), (q15, .inl (cI, 8, .inl (fun _ => 0)))] := hD
  refine W.widen (k := 2) (n := 16) (by omega) (by omega) ?_
  refine va_putF (D := D) (ci := 4) (v := .ref q15) (ty := .array .int) (C := R_M) (T := F_M) (N := 18) hx hb hts in_M ft_M ft_M_ok n_M hown hK hP hD hS 0 rfl rfl 5 (by decide) (hts _ k_439) (fun _ h9 => h9) rfl hin rfl (by decide +kernel) rfl rfl (Nat.le_of_ble_eq_true rfl) d_M_init_17 (fun H locs hP hD hS => ?_)
  have hP : va_P D cls9 [(h0, .inr (4, [.int 0, .int 0, .int 0, .int 0, .ref q7, .ref q15, .null, .null, .null, .null, .null, .null, .null, .null, .null, .int 0, .int 0, .null])), (q7, .inl (cI, 8, .inl (fun _ => 0))), (q15, .inl (cI, 8, .inl (fun _ => 0)))] H := hP
  have hD : va_D A [(h0, .inr (4, [.int 0, .int 0, .int 0, .int 0, .ref q7, .ref q15, .null, .null, .null, .null, .null, .null, .null, .null, .null, .int 0, .int 0, .null])), (q7, .inl (cI, 8, .inl (fun _ => 0))), (q15, .inl (cI, 8, .inl (fun _ => 0)))] := hD
  refine lv_aload_n hx hb d_M_init_20 rfl (lv_at hl 0 rfl) ?_
  refine lv_bipush (v := 8) hx hb d_M_init_21 (by decide) ?_
  refine va_newa (atype := .int) (ty := .int) (n := 8) (N' := 8) (a0 := (8, .inl (fun _ => 0))) hx hb (hts _ k_61) rfl hK hP hD hS hA (fun _ => rfl) (by decide) (by decide) (by decide) (Nat.le_of_ble_eq_true rfl) (Nat.le_of_ble_eq_true rfl) d_M_init_23 (fun q23 cA H hK2 hP hD hS => ?_)
  rw [raI hK2 hK] at hP hD
  have hzq23 : A q23 := hD.2 3 _ rfl
  have hP : va_P D cls9 [(h0, .inr (4, [.int 0, .int 0, .int 0, .int 0, .ref q7, .ref q15, .null, .null, .null, .null, .null, .null, .null, .null, .null, .int 0, .int 0, .null])), (q7, .inl (cI, 8, .inl (fun _ => 0))), (q15, .inl (cI, 8, .inl (fun _ => 0))), (q23, .inl (cI, 8, .inl (fun _ => 0)))] H := hP
  have hD : va_D A [(h0, .inr (4, [.int 0, .int 0, .int 0, .int 0, .ref q7, .ref q15, .null, .null, .null, .null, .null, .null, .null, .null, .null, .int 0, .int 0, .null])), (q7, .inl (cI, 8, .inl (fun _ => 0))), (q15, .inl (cI, 8, .inl (fun _ => 0))), (q23, .inl (cI, 8, .inl (fun _ => 0)))] := hD
  refine W.widen (k := 3) (n := 24) (by omega) (by omega) ?_
  refine va_putF (D := D) (ci := 4) (v := .ref q23) (ty := .array .int) (C := R_M) (T := F_M) (N := 18) hx hb hts in_M ft_M ft_M_ok n_M hown hK hP hD hS 0 rfl rfl 6 (by decide) (hts _ k_440) (fun _ h9 => h9) rfl hin rfl (by decide +kernel) rfl rfl (Nat.le_of_ble_eq_true rfl) d_M_init_25 (fun H locs hP hD hS => ?_)
  have hP : va_P D cls9 [(h0, .inr (4, [.int 0, .int 0, .int 0, .int 0, .ref q7, .ref q15, .ref q23, .null, .null, .null, .null, .null, .null, .null, .null, .int 0, .int 0, .null])), (q7, .inl (cI, 8, .inl (fun _ => 0))), (q15, .inl (cI, 8, .inl (fun _ => 0))), (q23, .inl (cI, 8, .inl (fun _ => 0)))] H := hP
  have hD : va_D A [(h0, .inr (4, [.int 0, .int 0, .int 0, .int 0, .ref q7, .ref q15, .ref q23, .null, .null, .null, .null, .null, .null, .null, .null, .int 0, .int 0, .null])), (q7, .inl (cI, 8, .inl (fun _ => 0))), (q15, .inl (cI, 8, .inl (fun _ => 0))), (q23, .inl (cI, 8, .inl (fun _ => 0)))] := hD
  refine lv_aload_n hx hb d_M_init_28 rfl (lv_at hl 0 rfl) ?_
  refine lv_bipush (v := 8) hx hb d_M_init_29 (by decide) ?_
  refine va_newa (atype := .int) (ty := .int) (n := 8) (N' := 8) (a0 := (8, .inl (fun _ => 0))) hx hb (hts _ k_61) rfl hK hP hD hS hA (fun _ => rfl) (by decide) (by decide) (by decide) (Nat.le_of_ble_eq_true rfl) (Nat.le_of_ble_eq_true rfl) d_M_init_31 (fun q31 cA H hK2 hP hD hS => ?_)
  rw [raI hK2 hK] at hP hD
  have hzq31 : A q31 := hD.2 4 _ rfl
  have hP : va_P D cls9 [(h0, .inr (4, [.int 0, .int 0, .int 0, .int 0, .ref q7, .ref q15, .ref q23, .null, .null, .null, .null, .null, .null, .null, .null, .int 0, .int 0, .null])), (q7, .inl (cI, 8, .inl (fun _ => 0))), (q15, .inl (cI, 8, .inl (fun _ => 0))), (q23, .inl (cI, 8, .inl (fun _ => 0))), (q31, .inl (cI, 8, .inl (fun _ => 0)))] H := hP
  have hD : va_D A [(h0, .inr (4, [.int 0, .int 0, .int 0, .int 0, .ref q7, .ref q15, .ref q23, .null, .null, .null, .null, .null, .null, .null, .null, .int 0, .int 0, .null])), (q7, .inl (cI, 8, .inl (fun _ => 0))), (q15, .inl (cI, 8, .inl (fun _ => 0))), (q23, .inl (cI, 8, .inl (fun _ => 0))), (q31, .inl (cI, 8, .inl (fun _ => 0)))] := hD
  refine W.widen (k := 4) (n := 32) (by omega) (by omega) ?_
  refine va_putF (D := D) (ci := 4) (v := .ref q31) (ty := .array .int) (C := R_M) (T := F_M) (N := 18) hx hb hts in_M ft_M ft_M_ok n_M hown hK hP hD hS 0 rfl rfl 7 (by decide) (hts _ k_441) (fun _ h9 => h9) rfl hin rfl (by decide +kernel) rfl rfl (Nat.le_of_ble_eq_true rfl) d_M_init_33 (fun H locs hP hD hS => ?_)
  have hP : va_P D cls9 [(h0, .inr (4, [.int 0, .int 0, .int 0, .int 0, .ref q7, .ref q15, .ref q23, .ref q31, .null, .null, .null, .null, .null, .null, .null, .int 0, .int 0, .null])), (q7, .inl (cI, 8, .inl (fun _ => 0))), (q15, .inl (cI, 8, .inl (fun _ => 0))), (q23, .inl (cI, 8, .inl (fun _ => 0))), (q31, .inl (cI, 8, .inl (fun _ => 0)))] H := hP
  have hD : va_D A [(h0, .inr (4, [.int 0, .int 0, .int 0, .int 0, .ref q7, .ref q15, .ref q23, .ref q31, .null, .null, .null, .null, .null, .null, .null, .int 0, .int 0, .null])), (q7, .inl (cI, 8, .inl (fun _ => 0))), (q15, .inl (cI, 8, .inl (fun _ => 0))), (q23, .inl (cI, 8, .inl (fun _ => 0))), (q31, .inl (cI, 8, .inl (fun _ => 0)))] := hD
  refine lv_aload_n hx hb d_M_init_36 rfl (lv_at hl 0 rfl) ?_
  refine lv_bipush (v := 8) hx hb d_M_init_37 (by decide) ?_
  refine va_newa (atype := .int) (ty := .int) (n := 8) (N' := 8) (a0 := (8, .inl (fun _ => 0))) hx hb (hts _ k_61) rfl hK hP hD hS hA (fun _ => rfl) (by decide) (by decide) (by decide) (Nat.le_of_ble_eq_true rfl) (Nat.le_of_ble_eq_true rfl) d_M_init_39 (fun q39 cA H hK2 hP hD hS => ?_)
  rw [raI hK2 hK] at hP hD
  have hzq39 : A q39 := hD.2 5 _ rfl
  have hP : va_P D cls9 [(h0, .inr (4, [.int 0, .int 0, .int 0, .int 0, .ref q7, .ref q15, .ref q23, .ref q31, .null, .null, .null, .null, .null, .null, .null, .int 0, .int 0, .null])), (q7, .inl (cI, 8, .inl (fun _ => 0))), (q15, .inl (cI, 8, .inl (fun _ => 0))), (q23, .inl (cI, 8, .inl (fun _ => 0))), (q31, .inl (cI, 8, .inl (fun _ => 0))), (q39, .inl (cI, 8, .inl (fun _ => 0)))] H := hP
  have hD : va_D A [(h0, .inr (4, [.int 0, .int 0, .int 0, .int 0, .ref q7, .ref q15, .ref q23, .ref q31, .null, .null, .null, .null, .null, .null, .null, .int 0, .int 0, .null])), (q7, .inl (cI, 8, .inl (fun _ => 0))), (q15, .inl (cI, 8, .inl (fun _ => 0))), (q23, .inl (cI, 8, .inl (fun _ => 0))), (q31, .inl (cI, 8, .inl (fun _ => 0))), (q39, .inl (cI, 8, .inl (fun _ => 0)))] := hD
  refine W.widen (k := 5) (n := 40) (by omega) (by omega) ?_
  refine va_putF (D := D) (ci := 4) (v := .ref q39) (ty := .array .int) (C := R_M) (T := F_M) (N := 18) hx hb hts in_M ft_M ft_M_ok n_M hown hK hP hD hS 0 rfl rfl 8 (by decide) (hts _ k_442) (fun _ h9 => h9) rfl hin rfl (by decide +kernel) rfl rfl (Nat.le_of_ble_eq_true rfl) d_M_init_41 (fun H locs hP hD hS => ?_)
  have hP : va_P D cls9 [(h0, .inr (4, [.int 0, .int 0, .int 0, .int 0, .ref q7, .ref q15, .ref q23, .ref q31, .ref q39, .null, .null, .null, .null, .null, .null, .int 0, .int 0, .null])), (q7, .inl (cI, 8, .inl (fun _ => 0))), (q15, .inl (cI, 8, .inl (fun _ => 0))), (q23, .inl (cI, 8, .inl (fun _ => 0))), (q31, .inl (cI, 8, .inl (fun _ => 0))), (q39, .inl (cI, 8, .inl (fun _ => 0)))] H := hP
  have hD : va_D A [(h0, .inr (4, [.int 0, .int 0, .int 0, .int 0, .ref q7, .ref q15, .ref q23, .ref q31, .ref q39, .null, .null, .null, .null, .null, .null, .int 0, .int 0, .null])), (q7, .inl (cI, 8, .inl (fun _ => 0))), (q15, .inl (cI, 8, .inl (fun _ => 0))), (q23, .inl (cI, 8, .inl (fun _ => 0))), (q31, .inl (cI, 8, .inl (fun _ => 0))), (q39, .inl (cI, 8, .inl (fun _ => 0)))] := hD
  refine lv_aload_n hx hb d_M_init_44 rfl (lv_at hl 0 rfl) ?_
  refine lv_bipush (v := 8) hx hb d_M_init_45 (by decide) ?_
  refine va_newa (atype := .int) (ty := .int) (n := 8) (N' := 8) (a0 := (8, .inl (fun _ => 0))) hx hb (hts _ k_61) rfl hK hP hD hS hA (fun _ => rfl) (by decide) (by decide) (by decide) (Nat.le_of_ble_eq_true rfl) (Nat.le_of_ble_eq_true rfl) d_M_init_47 (fun q47 cA H hK2 hP hD hS => ?_)
  rw [raI hK2 hK] at hP hD
  have hzq47 : A q47 := hD.2 6 _ rfl
  have hP : va_P D cls9 [(h0, .inr (4, [.int 0, .int 0, .int 0, .int 0, .ref q7, .ref q15, .ref q23, .ref q31, .ref q39, .null, .null, .null, .null, .null, .null, .int 0, .int 0, .null])), (q7, .inl (cI, 8, .inl (fun _ => 0))), (q15, .inl (cI, 8, .inl (fun _ => 0))), (q23, .inl (cI, 8, .inl (fun _ => 0))), (q31, .inl (cI, 8, .inl (fun _ => 0))), (q39, .inl (cI, 8, .inl (fun _ => 0))), (q47, .inl (cI, 8, .inl (fun _ => 0)))] H := hP
  have hD : va_D A [(h0, .inr (4, [.int 0, .int 0, .int 0, .int 0, .ref q7, .ref q15, .ref q23, .ref q31, .ref q39, .null, .null, .null, .null, .null, .null, .int 0, .int 0, .null])), (q7, .inl (cI, 8, .inl (fun _ => 0))), (q15, .inl (cI, 8, .inl (fun _ => 0))), (q23, .inl (cI, 8, .inl (fun _ => 0))), (q31, .inl (cI, 8, .inl (fun _ => 0))), (q39, .inl (cI, 8, .inl (fun _ => 0))), (q47, .inl (cI, 8, .inl (fun _ => 0)))] := hD
  refine W.widen (k := 6) (n := 48) (by omega) (by omega) ?_
  refine va_putF (D := D) (ci := 4) (v := .ref q47) (ty := .array .int) (C := R_M) (T := F_M) (N := 18) hx hb hts in_M ft_M ft_M_ok n_M hown hK hP hD hS 0 rfl rfl 9 (by decide) (hts _ k_443) (fun _ h9 => h9) rfl hin rfl (by decide +kernel) rfl rfl (Nat.le_of_ble_eq_true rfl) d_M_init_49 (fun H locs hP hD hS => ?_)
  have hP : va_P D cls9 [(h0, .inr (4, [.int 0, .int 0, .int 0, .int 0, .ref q7, .ref q15, .ref q23, .ref q31, .ref q39, .ref q47, .null, .null, .null, .null, .null, .int 0, .int 0, .null])), (q7, .inl (cI, 8, .inl (fun _ => 0))), (q15, .inl (cI, 8, .inl (fun _ => 0))), (q23, .inl (cI, 8, .inl (fun _ => 0))), (q31, .inl (cI, 8, .inl (fun _ => 0))), (q39, .inl (cI, 8, .inl (fun _ => 0))), (q47, .inl (cI, 8, .inl (fun _ => 0)))] H := hP
  have hD : va_D A [(h0, .inr (4, [.int 0, .int 0, .int 0, .int 0, .ref q7, .ref q15, .ref q23, .ref q31, .ref q39, .ref q47, .null, .null, .null, .null, .null, .int 0, .int 0, .null])), (q7, .inl (cI, 8, .inl (fun _ => 0))), (q15, .inl (cI, 8, .inl (fun _ => 0))), (q23, .inl (cI, 8, .inl (fun _ => 0))), (q31, .inl (cI, 8, .inl (fun _ => 0))), (q39, .inl (cI, 8, .inl (fun _ => 0))), (q47, .inl (cI, 8, .inl (fun _ => 0)))] := hD
  refine lv_aload_n hx hb d_M_init_52 rfl (lv_at hl 0 rfl) ?_
  refine lv_bipush (v := 8) hx hb d_M_init_53 (by decide) ?_
  refine va_newa (atype := .int) (ty := .int) (n := 8) (N' := 8) (a0 := (8, .inl (fun _ => 0))) hx hb (hts _ k_61) rfl hK hP hD hS hA (fun _ => rfl) (by decide) (by decide) (by decide) (Nat.le_of_ble_eq_true rfl) (Nat.le_of_ble_eq_true rfl) d_M_init_55 (fun q55 cA H hK2 hP hD hS => ?_)
  rw [raI hK2 hK] at hP hD
  have hzq55 : A q55 := hD.2 7 _ rfl
  have hP : va_P D cls9 [(h0, .inr (4, [.int 0, .int 0, .int 0, .int 0, .ref q7, .ref q15, .ref q23, .ref q31, .ref q39, .ref q47, .null, .null, .null, .null, .null, .int 0, .int 0, .null])), (q7, .inl (cI, 8, .inl (fun _ => 0))), (q15, .inl (cI, 8, .inl (fun _ => 0))), (q23, .inl (cI, 8, .inl (fun _ => 0))), (q31, .inl (cI, 8, .inl (fun _ => 0))), (q39, .inl (cI, 8, .inl (fun _ => 0))), (q47, .inl (cI, 8, .inl (fun _ => 0))), (q55, .inl (cI, 8, .inl (fun _ => 0)))] H := hP
  have hD : va_D A [(h0, .inr (4, [.int 0, .int 0, .int 0, .int 0, .ref q7, .ref q15, .ref q23, .ref q31, .ref q39, .ref q47, .null, .null, .null, .null, .null, .int 0, .int 0, .null])), (q7, .inl (cI, 8, .inl (fun _ => 0))), (q15, .inl (cI, 8, .inl (fun _ => 0))), (q23, .inl (cI, 8, .inl (fun _ => 0))), (q31, .inl (cI, 8, .inl (fun _ => 0))), (q39, .inl (cI, 8, .inl (fun _ => 0))), (q47, .inl (cI, 8, .inl (fun _ => 0))), (q55, .inl (cI, 8, .inl (fun _ => 0)))] := hD
  refine W.widen (k := 7) (n := 56) (by omega) (by omega) ?_
  refine va_putF (D := D) (ci := 4) (v := .ref q55) (ty := .array .int) (C := R_M) (T := F_M) (N := 18) hx hb hts in_M ft_M ft_M_ok n_M hown hK hP hD hS 0 rfl rfl 10 (by decide) (hts _ k_444) (fun _ h9 => h9) rfl hin rfl (by decide +kernel) rfl rfl (Nat.le_of_ble_eq_true rfl) d_M_init_57 (fun H locs hP hD hS => ?_)
  have hP : va_P D cls9 [(h0, .inr (4, [.int 0, .int 0, .int 0, .int 0, .ref q7, .ref q15, .ref q23, .ref q31, .ref q39, .ref q47, .ref q55, .null, .null, .null, .null, .int 0, .int 0, .null])), (q7, .inl (cI, 8, .inl (fun _ => 0))), (q15, .inl (cI, 8, .inl (fun _ => 0))), (q23, .inl (cI, 8, .inl (fun _ => 0))), (q31, .inl (cI, 8, .inl (fun _ => 0))), (q39, .inl (cI, 8, .inl (fun _ => 0))), (q47, .inl (cI, 8, .inl (fun _ => 0))), (q55, .inl (cI, 8, .inl (fun _ => 0)))] H := hP
  have hD : va_D A [(h0, .inr (4, [.int 0, .int 0, .int 0, .int 0, .ref q7, .ref q15, .ref q23, .ref q31, .ref q39, .ref q47, .ref q55, .null, .null, .null, .null, .int 0, .int 0, .null])), (q7, .inl (cI, 8, .inl (fun _ => 0))), (q15, .inl (cI, 8, .inl (fun _ => 0))), (q23, .inl (cI, 8, .inl (fun _ => 0))), (q31, .inl (cI, 8, .inl (fun _ => 0))), (q39, .inl (cI, 8, .inl (fun _ => 0))), (q47, .inl (cI, 8, .inl (fun _ => 0))), (q55, .inl (cI, 8, .inl (fun _ => 0)))] := hD
  refine lv_aload_n hx hb d_M_init_60 rfl (lv_at hl 0 rfl) ?_
  refine lv_bipush (v := 48) hx hb d_M_init_61 (by decide) ?_
  refine va_newa (atype := .int) (ty := .int) (n := 48) (N' := 48) (a0 := (48, .inl (fun _ => 0))) hx hb (hts _ k_61) rfl hK hP hD hS hA (fun _ => rfl) (by decide) (by decide) (by decide) (Nat.le_of_ble_eq_true rfl) (Nat.le_of_ble_eq_true rfl) d_M_init_63 (fun q63 cA H hK2 hP hD hS => ?_)
  rw [raI hK2 hK] at hP hD
  have hzq63 : A q63 := hD.2 8 _ rfl
  have hP : va_P D cls9 [(h0, .inr (4, [.int 0, .int 0, .int 0, .int 0, .ref q7, .ref q15, .ref q23, .ref q31, .ref q39, .ref q47, .ref q55, .null, .null, .null, .null, .int 0, .int 0, .null])), (q7, .inl (cI, 8, .inl (fun _ => 0))), (q15, .inl (cI, 8, .inl (fun _ => 0))), (q23, .inl (cI, 8, .inl (fun _ => 0))), (q31, .inl (cI, 8, .inl (fun _ => 0))), (q39, .inl (cI, 8, .inl (fun _ => 0))), (q47, .inl (cI, 8, .inl (fun _ => 0))), (q55, .inl (cI, 8, .inl (fun _ => 0))), (q63, .inl (cI, 48, .inl (fun _ => 0)))] H := hP
  have hD : va_D A [(h0, .inr (4, [.int 0, .int 0, .int 0, .int 0, .ref q7, .ref q15, .ref q23, .ref q31, .ref q39, .ref q47, .ref q55, .null, .null, .null, .null, .int 0, .int 0, .null])), (q7, .inl (cI, 8, .inl (fun _ => 0))), (q15, .inl (cI, 8, .inl (fun _ => 0))), (q23, .inl (cI, 8, .inl (fun _ => 0))), (q31, .inl (cI, 8, .inl (fun _ => 0))), (q39, .inl (cI, 8, .inl (fun _ => 0))), (q47, .inl (cI, 8, .inl (fun _ => 0))), (q55, .inl (cI, 8, .inl (fun _ => 0))), (q63, .inl (cI, 48, .inl (fun _ => 0)))] := hD
  refine W.widen (k := 8) (n := 104) (by omega) (by omega) ?_
  refine va_putF (D := D) (ci := 4) (v := .ref q63) (ty := .array .int) (C := R_M) (T := F_M) (N := 18) hx hb hts in_M ft_M ft_M_ok n_M hown hK hP hD hS 0 rfl rfl 11 (by decide) (hts _ k_445) (fun _ h9 => h9) rfl hin rfl (by decide +kernel) rfl rfl (Nat.le_of_ble_eq_true rfl) d_M_init_65 (fun H locs hP hD hS => ?_)
  have hP : va_P D cls9 [(h0, .inr (4, [.int 0, .int 0, .int 0, .int 0, .ref q7, .ref q15, .ref q23, .ref q31, .ref q39, .ref q47, .ref q55, .ref q63, .null, .null, .null, .int 0, .int 0, .null])), (q7, .inl (cI, 8, .inl (fun _ => 0))), (q15, .inl (cI, 8, .inl (fun _ => 0))), (q23, .inl (cI, 8, .inl (fun _ => 0))), (q31, .inl (cI, 8, .inl (fun _ => 0))), (q39, .inl (cI, 8, .inl (fun _ => 0))), (q47, .inl (cI, 8, .inl (fun _ => 0))), (q55, .inl (cI, 8, .inl (fun _ => 0))), (q63, .inl (cI, 48, .inl (fun _ => 0)))] H := hP
  have hD : va_D A [(h0, .inr (4, [.int 0, .int 0, .int 0, .int 0, .ref q7, .ref q15, .ref q23, .ref q31, .ref q39, .ref q47, .ref q55, .ref q63, .null, .null, .null, .int 0, .int 0, .null])), (q7, .inl (cI, 8, .inl (fun _ => 0))), (q15, .inl (cI, 8, .inl (fun _ => 0))), (q23, .inl (cI, 8, .inl (fun _ => 0))), (q31, .inl (cI, 8, .inl (fun _ => 0))), (q39, .inl (cI, 8, .inl (fun _ => 0))), (q47, .inl (cI, 8, .inl (fun _ => 0))), (q55, .inl (cI, 8, .inl (fun _ => 0))), (q63, .inl (cI, 48, .inl (fun _ => 0)))] := hD
  refine lv_aload_n hx hb d_M_init_68 rfl (lv_at hl 0 rfl) ?_
  refine lv_bipush (v := 6) hx hb d_M_init_69 (by decide) ?_
  refine va_newa (atype := .int) (ty := .int) (n := 6) (N' := 6) (a0 := (6, .inl (fun _ => 0))) hx hb (hts _ k_61) rfl hK hP hD hS hA (fun _ => rfl) (by decide) (by decide) (by decide) (Nat.le_of_ble_eq_true rfl) (Nat.le_of_ble_eq_true rfl) d_M_init_71 (fun q71 cA H hK2 hP hD hS => ?_)
  rw [raI hK2 hK] at hP hD
  have hzq71 : A q71 := hD.2 9 _ rfl
  have hP : va_P D cls9 [(h0, .inr (4, [.int 0, .int 0, .int 0, .int 0, .ref q7, .ref q15, .ref q23, .ref q31, .ref q39, .ref q47, .ref q55, .ref q63, .null, .null, .null, .int 0, .int 0, .null])), (q7, .inl (cI, 8, .inl (fun _ => 0))), (q15, .inl (cI, 8, .inl (fun _ => 0))), (q23, .inl (cI, 8, .inl (fun _ => 0))), (q31, .inl (cI, 8, .inl (fun _ => 0))), (q39, .inl (cI, 8, .inl (fun _ => 0))), (q47, .inl (cI, 8, .inl (fun _ => 0))), (q55, .inl (cI, 8, .inl (fun _ => 0))), (q63, .inl (cI, 48, .inl (fun _ => 0))), (q71, .inl (cI, 6, .inl (fun _ => 0)))] H := hP
  have hD : va_D A [(h0, .inr (4, [.int 0, .int 0, .int 0, .int 0, .ref q7, .ref q15, .ref q23, .ref q31, .ref q39, .ref q47, .ref q55, .ref q63, .null, .null, .null, .int 0, .int 0, .null])), (q7, .inl (cI, 8, .inl (fun _ => 0))), (q15, .inl (cI, 8, .inl (fun _ => 0))), (q23, .inl (cI, 8, .inl (fun _ => 0))), (q31, .inl (cI, 8, .inl (fun _ => 0))), (q39, .inl (cI, 8, .inl (fun _ => 0))), (q47, .inl (cI, 8, .inl (fun _ => 0))), (q55, .inl (cI, 8, .inl (fun _ => 0))), (q63, .inl (cI, 48, .inl (fun _ => 0))), (q71, .inl (cI, 6, .inl (fun _ => 0)))] := hD
  refine W.widen (k := 9) (n := 110) (by omega) (by omega) ?_
  refine va_putF (D := D) (ci := 4) (v := .ref q71) (ty := .array .int) (C := R_M) (T := F_M) (N := 18) hx hb hts in_M ft_M ft_M_ok n_M hown hK hP hD hS 0 rfl rfl 12 (by decide) (hts _ k_446) (fun _ h9 => h9) rfl hin rfl (by decide +kernel) rfl rfl (Nat.le_of_ble_eq_true rfl) d_M_init_73 (fun H locs hP hD hS => ?_)
  have hP : va_P D cls9 [(h0, .inr (4, [.int 0, .int 0, .int 0, .int 0, .ref q7, .ref q15, .ref q23, .ref q31, .ref q39, .ref q47, .ref q55, .ref q63, .ref q71, .null, .null, .int 0, .int 0, .null])), (q7, .inl (cI, 8, .inl (fun _ => 0))), (q15, .inl (cI, 8, .inl (fun _ => 0))), (q23, .inl (cI, 8, .inl (fun _ => 0))), (q31, .inl (cI, 8, .inl (fun _ => 0))), (q39, .inl (cI, 8, .inl (fun _ => 0))), (q47, .inl (cI, 8, .inl (fun _ => 0))), (q55, .inl (cI, 8, .inl (fun _ => 0))), (q63, .inl (cI, 48, .inl (fun _ => 0))), (q71, .inl (cI, 6, .inl (fun _ => 0)))] H := hP
  have hD : va_D A [(h0, .inr (4, [.int 0, .int 0, .int 0, .int 0, .ref q7, .ref q15, .ref q23, .ref q31, .ref q39, .ref q47, .ref q55, .ref q63, .ref q71, .null, .null, .int 0, .int 0, .null])), (q7, .inl (cI, 8, .inl (fun _ => 0))), (q15, .inl (cI, 8, .inl (fun _ => 0))), (q23, .inl (cI, 8, .inl (fun _ => 0))), (q31, .inl (cI, 8, .inl (fun _ => 0))), (q39, .inl (cI, 8, .inl (fun _ => 0))), (q47, .inl (cI, 8, .inl (fun _ => 0))), (q55, .inl (cI, 8, .inl (fun _ => 0))), (q63, .inl (cI, 48, .inl (fun _ => 0))), (q71, .inl (cI, 6, .inl (fun _ => 0)))] := hD
  refine lv_aload_n hx hb d_M_init_76 rfl (lv_at hl 0 rfl) ?_
  refine lv_bipush (v := 6) hx hb d_M_init_77 (by decide) ?_
  refine va_newa (atype := .int) (ty := .int) (n := 6) (N' := 6) (a0 := (6, .inl (fun _ => 0))) hx hb (hts _ k_61) rfl hK hP hD hS hA (fun _ => rfl) (by decide) (by decide) (by decide) (Nat.le_of_ble_eq_true rfl) (Nat.le_of_ble_eq_true rfl) d_M_init_79 (fun q79 cA H hK2 hP hD hS => ?_)
  rw [raI hK2 hK] at hP hD
  have hzq79 : A q79 := hD.2 10 _ rfl
  have hP : va_P D cls9 [(h0, .inr (4, [.int 0, .int 0, .int 0, .int 0, .ref q7, .ref q15, .ref q23, .ref q31, .ref q39, .ref q47, .ref q55, .ref q63, .ref q71, .null, .null, .int 0, .int 0, .null])), (q7, .inl (cI, 8, .inl (fun _ => 0))), (q15, .inl (cI, 8, .inl (fun _ => 0))), (q23, .inl (cI, 8, .inl (fun _ => 0))), (q31, .inl (cI, 8, .inl (fun _ => 0))), (q39, .inl (cI, 8, .inl (fun _ => 0))), (q47, .inl (cI, 8, .inl (fun _ => 0))), (q55, .inl (cI, 8, .inl (fun _ => 0))), (q63, .inl (cI, 48, .inl (fun _ => 0))), (q71, .inl (cI, 6, .inl (fun _ => 0))), (q79, .inl (cI, 6, .inl (fun _ => 0)))] H := hP
  have hD : va_D A [(h0, .inr (4, [.int 0, .int 0, .int 0, .int 0, .ref q7, .ref q15, .ref q23, .ref q31, .ref q39, .ref q47, .ref q55, .ref q63, .ref q71, .null, .null, .int 0, .int 0, .null])), (q7, .inl (cI, 8, .inl (fun _ => 0))), (q15, .inl (cI, 8, .inl (fun _ => 0))), (q23, .inl (cI, 8, .inl (fun _ => 0))), (q31, .inl (cI, 8, .inl (fun _ => 0))), (q39, .inl (cI, 8, .inl (fun _ => 0))), (q47, .inl (cI, 8, .inl (fun _ => 0))), (q55, .inl (cI, 8, .inl (fun _ => 0))), (q63, .inl (cI, 48, .inl (fun _ => 0))), (q71, .inl (cI, 6, .inl (fun _ => 0))), (q79, .inl (cI, 6, .inl (fun _ => 0)))] := hD
  refine W.widen (k := 10) (n := 116) (by omega) (by omega) ?_
  refine va_putF (D := D) (ci := 4) (v := .ref q79) (ty := .array .int) (C := R_M) (T := F_M) (N := 18) hx hb hts in_M ft_M ft_M_ok n_M hown hK hP hD hS 0 rfl rfl 13 (by decide) (hts _ k_447) (fun _ h9 => h9) rfl hin rfl (by decide +kernel) rfl rfl (Nat.le_of_ble_eq_true rfl) d_M_init_81 (fun H locs hP hD hS => ?_)
  have hP : va_P D cls9 [(h0, .inr (4, [.int 0, .int 0, .int 0, .int 0, .ref q7, .ref q15, .ref q23, .ref q31, .ref q39, .ref q47, .ref q55, .ref q63, .ref q71, .ref q79, .null, .int 0, .int 0, .null])), (q7, .inl (cI, 8, .inl (fun _ => 0))), (q15, .inl (cI, 8, .inl (fun _ => 0))), (q23, .inl (cI, 8, .inl (fun _ => 0))), (q31, .inl (cI, 8, .inl (fun _ => 0))), (q39, .inl (cI, 8, .inl (fun _ => 0))), (q47, .inl (cI, 8, .inl (fun _ => 0))), (q55, .inl (cI, 8, .inl (fun _ => 0))), (q63, .inl (cI, 48, .inl (fun _ => 0))), (q71, .inl (cI, 6, .inl (fun _ => 0))), (q79, .inl (cI, 6, .inl (fun _ => 0)))] H := hP
  have hD : va_D A [(h0, .inr (4, [.int 0, .int 0, .int 0, .int 0, .ref q7, .ref q15, .ref q23, .ref q31, .ref q39, .ref q47, .ref q55, .ref q63, .ref q71, .ref q79, .null, .int 0, .int 0, .null])), (q7, .inl (cI, 8, .inl (fun _ => 0))), (q15, .inl (cI, 8, .inl (fun _ => 0))), (q23, .inl (cI, 8, .inl (fun _ => 0))), (q31, .inl (cI, 8, .inl (fun _ => 0))), (q39, .inl (cI, 8, .inl (fun _ => 0))), (q47, .inl (cI, 8, .inl (fun _ => 0))), (q55, .inl (cI, 8, .inl (fun _ => 0))), (q63, .inl (cI, 48, .inl (fun _ => 0))), (q71, .inl (cI, 6, .inl (fun _ => 0))), (q79, .inl (cI, 6, .inl (fun _ => 0)))] := hD
  refine lv_aload_n hx hb d_M_init_84 rfl (lv_at hl 0 rfl) ?_
  refine lv_bipush (v := 6) hx hb d_M_init_85 (by decide) ?_
  refine va_newa (atype := .int) (ty := .int) (n := 6) (N' := 6) (a0 := (6, .inl (fun _ => 0))) hx hb (hts _ k_61) rfl hK hP hD hS hA (fun _ => rfl) (by decide) (by decide) (by decide) (Nat.le_of_ble_eq_true rfl) (Nat.le_of_ble_eq_true rfl) d_M_init_87 (fun q87 cA H hK2 hP hD hS => ?_)
  rw [raI hK2 hK] at hP hD
  have hzq87 : A q87 := hD.2 11 _ rfl
  have hP : va_P D cls9 [(h0, .inr (4, [.int 0, .int 0, .int 0, .int 0, .ref q7, .ref q15, .ref q23, .ref q31, .ref q39, .ref q47, .ref q55, .ref q63, .ref q71, .ref q79, .null, .int 0, .int 0, .null])), (q7, .inl (cI, 8, .inl (fun _ => 0))), (q15, .inl (cI, 8, .inl (fun _ => 0))), (q23, .inl (cI, 8, .inl (fun _ => 0))), (q31, .inl (cI, 8, .inl (fun _ => 0))), (q39, .inl (cI, 8, .inl (fun _ => 0))), (q47, .inl (cI, 8, .inl (fun _ => 0))), (q55, .inl (cI, 8, .inl (fun _ => 0))), (q63, .inl (cI, 48, .inl (fun _ => 0))), (q71, .inl (cI, 6, .inl (fun _ => 0))), (q79, .inl (cI, 6, .inl (fun _ => 0))), (q87, .inl (cI, 6, .inl (fun _ => 0)))] H := hP
  have hD : va_D A [(h0, .inr (4, [.int 0, .int 0, .int 0, .int 0, .ref q7, .ref q15, .ref q23, .ref q31, .ref q39, .ref q47, .ref q55, .ref q63, .ref q71, .ref q79, .null, .int 0, .int 0, .null])), (q7, .inl (cI, 8, .inl (fun _ => 0))), (q15, .inl (cI, 8, .inl (fun _ => 0))), (q23, .inl (cI, 8, .inl (fun _ => 0))), (q31, .inl (cI, 8, .inl (fun _ => 0))), (q39, .inl (cI, 8, .inl (fun _ => 0))), (q47, .inl (cI, 8, .inl (fun _ => 0))), (q55, .inl (cI, 8, .inl (fun _ => 0))), (q63, .inl (cI, 48, .inl (fun _ => 0))), (q71, .inl (cI, 6, .inl (fun _ => 0))), (q79, .inl (cI, 6, .inl (fun _ => 0))), (q87, .inl (cI, 6, .inl (fun _ => 0)))] := hD
  refine W.widen (k := 11) (n := 122) (by omega) (by omega) ?_
  refine va_putF (D := D) (ci := 4) (v := .ref q87) (ty := .array .int) (C := R_M) (T := F_M) (N := 18) hx hb hts in_M ft_M ft_M_ok n_M hown hK hP hD hS 0 rfl rfl 14 (by decide) (hts _ k_448) (fun _ h9 => h9) rfl hin rfl (by decide +kernel) rfl rfl (Nat.le_of_ble_eq_true rfl) d_M_init_89 (fun H locs hP hD hS => ?_)
  have hP : va_P D cls9 [(h0, .inr (4, [.int 0, .int 0, .int 0, .int 0, .ref q7, .ref q15, .ref q23, .ref q31, .ref q39, .ref q47, .ref q55, .ref q63, .ref q71, .ref q79, .ref q87, .int 0, .int 0, .null])), (q7, .inl (cI, 8, .inl (fun _ => 0))), (q15, .inl (cI, 8, .inl (fun _ => 0))), (q23, .inl (cI, 8, .inl (fun _ => 0))), (q31, .inl (cI, 8, .inl (fun _ => 0))), (q39, .inl (cI, 8, .inl (fun _ => 0))), (q47, .inl (cI, 8, .inl (fun _ => 0))), (q55, .inl (cI, 8, .inl (fun _ => 0))), (q63, .inl (cI, 48, .inl (fun _ => 0))), (q71, .inl (cI, 6, .inl (fun _ => 0))), (q79, .inl (cI, 6, .inl (fun _ => 0))), (q87, .inl (cI, 6, .inl (fun _ => 0)))] H := hP
  have hD : va_D A [(h0, .inr (4, [.int 0, .int 0, .int 0, .int 0, .ref q7, .ref q15, .ref q23, .ref q31, .ref q39, .ref q47, .ref q55, .ref q63, .ref q71, .ref q79, .ref q87, .int 0, .int 0, .null])), (q7, .inl (cI, 8, .inl (fun _ => 0))), (q15, .inl (cI, 8, .inl (fun _ => 0))), (q23, .inl (cI, 8, .inl (fun _ => 0))), (q31, .inl (cI, 8, .inl (fun _ => 0))), (q39, .inl (cI, 8, .inl (fun _ => 0))), (q47, .inl (cI, 8, .inl (fun _ => 0))), (q55, .inl (cI, 8, .inl (fun _ => 0))), (q63, .inl (cI, 48, .inl (fun _ => 0))), (q71, .inl (cI, 6, .inl (fun _ => 0))), (q79, .inl (cI, 6, .inl (fun _ => 0))), (q87, .inl (cI, 6, .inl (fun _ => 0)))] := hD
  refine lv_aload_n hx hb d_M_init_92 rfl (lv_at hl 0 rfl) ?_
  refine lv_bipush (v := 40) hx hb d_M_init_93 (by decide) ?_
  refine va_newa (atype := .int) (ty := .int) (n := 40) (N' := 40) (a0 := (40, .inl (fun _ => 0))) hx hb (hts _ k_61) rfl hK hP hD hS hA (fun _ => rfl) (by decide) (by decide) (by decide) (Nat.le_of_ble_eq_true rfl) (Nat.le_of_ble_eq_true rfl) d_M_init_95 (fun q95 cA H hK2 hP hD hS => ?_)
  rw [raI hK2 hK] at hP hD
  have hzq95 : A q95 := hD.2 12 _ rfl
  have hP : va_P D cls9 [(h0, .inr (4, [.int 0, .int 0, .int 0, .int 0, .ref q7, .ref q15, .ref q23, .ref q31, .ref q39, .ref q47, .ref q55, .ref q63, .ref q71, .ref q79, .ref q87, .int 0, .int 0, .null])), (q7, .inl (cI, 8, .inl (fun _ => 0))), (q15, .inl (cI, 8, .inl (fun _ => 0))), (q23, .inl (cI, 8, .inl (fun _ => 0))), (q31, .inl (cI, 8, .inl (fun _ => 0))), (q39, .inl (cI, 8, .inl (fun _ => 0))), (q47, .inl (cI, 8, .inl (fun _ => 0))), (q55, .inl (cI, 8, .inl (fun _ => 0))), (q63, .inl (cI, 48, .inl (fun _ => 0))), (q71, .inl (cI, 6, .inl (fun _ => 0))), (q79, .inl (cI, 6, .inl (fun _ => 0))), (q87, .inl (cI, 6, .inl (fun _ => 0))), (q95, .inl (cI, 40, .inl (fun _ => 0)))] H := hP
  have hD : va_D A [(h0, .inr (4, [.int 0, .int 0, .int 0, .int 0, .ref q7, .ref q15, .ref q23, .ref q31, .ref q39, .ref q47, .ref q55, .ref q63, .ref q71, .ref q79, .ref q87, .int 0, .int 0, .null])), (q7, .inl (cI, 8, .inl (fun _ => 0))), (q15, .inl (cI, 8, .inl (fun _ => 0))), (q23, .inl (cI, 8, .inl (fun _ => 0))), (q31, .inl (cI, 8, .inl (fun _ => 0))), (q39, .inl (cI, 8, .inl (fun _ => 0))), (q47, .inl (cI, 8, .inl (fun _ => 0))), (q55, .inl (cI, 8, .inl (fun _ => 0))), (q63, .inl (cI, 48, .inl (fun _ => 0))), (q71, .inl (cI, 6, .inl (fun _ => 0))), (q79, .inl (cI, 6, .inl (fun _ => 0))), (q87, .inl (cI, 6, .inl (fun _ => 0))), (q95, .inl (cI, 40, .inl (fun _ => 0)))] := hD
  refine W.widen (k := 12) (n := 162) (by omega) (by omega) ?_
  refine va_putF (D := D) (ci := 4) (v := .ref q95) (ty := .array .int) (C := R_M) (T := F_M) (N := 18) hx hb hts in_M ft_M ft_M_ok n_M hown hK hP hD hS 0 rfl rfl 17 (by decide) (hts _ k_451) (fun _ h9 => h9) rfl hin rfl (by decide +kernel) rfl rfl (Nat.le_of_ble_eq_true rfl) d_M_init_97 (fun H locs hP hD hS => ?_)
  have hP : va_P D cls9 [(h0, .inr (4, [.int 0, .int 0, .int 0, .int 0, .ref q7, .ref q15, .ref q23, .ref q31, .ref q39, .ref q47, .ref q55, .ref q63, .ref q71, .ref q79, .ref q87, .int 0, .int 0, .ref q95])), (q7, .inl (cI, 8, .inl (fun _ => 0))), (q15, .inl (cI, 8, .inl (fun _ => 0))), (q23, .inl (cI, 8, .inl (fun _ => 0))), (q31, .inl (cI, 8, .inl (fun _ => 0))), (q39, .inl (cI, 8, .inl (fun _ => 0))), (q47, .inl (cI, 8, .inl (fun _ => 0))), (q55, .inl (cI, 8, .inl (fun _ => 0))), (q63, .inl (cI, 48, .inl (fun _ => 0))), (q71, .inl (cI, 6, .inl (fun _ => 0))), (q79, .inl (cI, 6, .inl (fun _ => 0))), (q87, .inl (cI, 6, .inl (fun _ => 0))), (q95, .inl (cI, 40, .inl (fun _ => 0)))] H := hP
  have hD : va_D A [(h0, .inr (4, [.int 0, .int 0, .int 0, .int 0, .ref q7, .ref q15, .ref q23, .ref q31, .ref q39, .ref q47, .ref q55, .ref q63, .ref q71, .ref q79, .ref q87, .int 0, .int 0, .ref q95])), (q7, .inl (cI, 8, .inl (fun _ => 0))), (q15, .inl (cI, 8, .inl (fun _ => 0))), (q23, .inl (cI, 8, .inl (fun _ => 0))), (q31, .inl (cI, 8, .inl (fun _ => 0))), (q39, .inl (cI, 8, .inl (fun _ => 0))), (q47, .inl (cI, 8, .inl (fun _ => 0))), (q55, .inl (cI, 8, .inl (fun _ => 0))), (q63, .inl (cI, 48, .inl (fun _ => 0))), (q71, .inl (cI, 6, .inl (fun _ => 0))), (q79, .inl (cI, 6, .inl (fun _ => 0))), (q87, .inl (cI, 6, .inl (fun _ => 0))), (q95, .inl (cI, 40, .inl (fun _ => 0)))] := hD
  obtain ⟨ad, had⟩ : ∃ z : Nat → Nat, z = fun j => [h0, q7, q15, q23, q31, q39, q47, q55, q63, q71, q79, q87, q95].getD j 0 := ⟨_, rfl⟩
  have hw : ([(h0, .inr (4, [.int 0, .int 0, .int 0, .int 0, .ref q7, .ref q15, .ref q23, .ref q31, .ref q39, .ref q47, .ref q55, .ref q63, .ref q71, .ref q79, .ref q87, .int 0, .int 0, .ref q95])), (q7, .inl (cI, 8, .inl (fun _ => 0))), (q15, .inl (cI, 8, .inl (fun _ => 0))), (q23, .inl (cI, 8, .inl (fun _ => 0))), (q31, .inl (cI, 8, .inl (fun _ => 0))), (q39, .inl (cI, 8, .inl (fun _ => 0))), (q47, .inl (cI, 8, .inl (fun _ => 0))), (q55, .inl (cI, 8, .inl (fun _ => 0))), (q63, .inl (cI, 48, .inl (fun _ => 0))), (q71, .inl (cI, 6, .inl (fun _ => 0))), (q79, .inl (cI, 6, .inl (fun _ => 0))), (q87, .inl (cI, 6, .inl (fun _ => 0))), (q95, .inl (cI, 40, .inl (fun _ => 0)))] : va_W) = mw cI ad (mi 0) := by rw [had, mi_0]; rfl
  rw [hw] at hP hD
  have hI : ∀ i j, i < 13 → j < 13 → ad i = ad j → i = j := fun i j hi hj h => hD.1 i j _ _ (mw_at hi) (mw_at hj) h
  have hz0 : ad 0 = h0 := by rw [had]; rfl
  have hzj : ∀ j, 0 < j → j < 13 → s.heap.size ≤ ad j := fun j h1 h2 => (hAn _ (hD.2 j _ (mw_at h2))).resolve_left (fun z => absurd (hI j 0 h2 (by decide) (z.trans hz0.symm)) (by omega))
  have hl : lv_has ls 2 [(0, .ref (ad 0))] := by rw [hz0]; exact hl
  rw [← hz0] at hAe
  refine lv_iconst (v := 0) hx hb d_M_init_100 (by decide) ?_
  refine lv_istore_n hx hb d_M_init_101 rfl hl (by decide) rfl (fun ls hl => ?_)
  have L : ∀ (n i : Nat) (H : Heap) (locs : List Loc) (ls : Array Slot), i + n = 6 → lv_has ls 2 [(1, .int (nI i)), (0, .ref (ad 0))] → va_P D cls9 (mw cI ad (mi i)) H → va_S A s.heap H locs → W p l e (headSpec w_M_init { frames := 1, cells := 12, slots := 162, locals := 12 }).room s m [Value.ref h0].toArray below meth c H locs 12 162 (MQ below (va_Qv (S := Nat → Nat) (fun ad => ad 0 = h0 ∧ (∀ j, 0 < j → j < 13 → s.heap.size ≤ ad j) ∧ ∀ i j, i < 13 → j < 13 → ad i = ad j → i = j) (fun ad t => va_P D cls9 (mw cI ad m00) t.heap) A) [Value.ref h0].toArray s 12 162 A) (F0 m 102 ls []) := by
    intro n
    induction n with
    | zero =>
      intro i H locs ls hcnt hl hP hS
      have hz : i = 6 := by omega
      subst hz
      refine lv_iload_n hx hb d_M_init_102 rfl (lv_at hl 0 rfl) ?_
      refine lv_bipush (v := 6) hx hb d_M_init_103 (by decide) ?_
      refine lv_icmp_ge (tgt := 121) hx hb d_M_init_105 (by decide) (fun _ => ?_) (fun h9 => absurd (by decide) h9)
      exact W.vret hx hb hr (fun t ht _ => ⟨⟨ad, rfl, ⟨hz0, hzj, hI⟩, by show va_P _ _ _ t.heap; rw [ht]; exact hP⟩, hS.F ht⟩) hS.2.2 d_M_init_121
    | succ n ih =>
      intro i H locs ls hcnt hl hP hS
      have hi8 : i < 6 := by omega
      refine lv_iload_n hx hb d_M_init_102 rfl (lv_at hl 0 rfl) ?_
      refine lv_bipush (v := 6) hx hb d_M_init_103 (by decide) ?_
      refine lv_icmp_ge (tgt := 121) hx hb d_M_init_105 (by decide) (fun h9 => absurd h9 (nlt_6 hi8)) (fun _ => ?_)
      refine lv_aload_n hx hb d_M_init_108 rfl (lv_at hl 1 rfl) ?_
      refine va_get (D := D) (ci := 4) (v := .ref (ad 9)) (C := R_M) (T := F_M) (N := 18) hx hb hts in_M hown hK hP 0 mw_0 rfl 12 (by decide) (hts _ k_446) (fun _ h9 => h9) rfl d_M_init_109 ?_
      refine lv_iload_n hx hb d_M_init_112 rfl (lv_at hl 0 rfl) ?_
      refine lv_iconst (v := (-1)) hx hb d_M_init_113 (by decide) ?_
      refine va_iast hx hb hK hP (A := A) (mw_DA hI (fun j hj => by rw [← hAe]; exact (Nat.eq_zero_or_pos j).elim (fun z => Or.inl (by rw [z])) (fun z => Or.inr (hzj j z hj)))) hS 9 0 mw_9 rfl (vp_in_nI hi8 (by decide)) d_M_init_114 (fun H locs hP _ hS => ?_)
      rw [show (nI i).toNatClampNeg = i from nI_clamp (by omega), mp_9, mi_succ] at hP
      refine lv_iinc (k := 0) (v := (nI (i + 1))) hx hb d_M_init_115 hl rfl (by rw [nI_succ]; rfl) (by decide) rfl (fun ls hl => ?_)
      refine lv_goto (tgt := 102) hx hb d_M_init_118 (by decide) ?_
      exact ih (i + 1) H locs ls (by omega) hl hP hS
  exact L 6 0 H locs ls (by decide) hl hP hS
