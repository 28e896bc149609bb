set_option maxHeartbeats 4000000 in
set_option maxRecDepth 100000 in
theorem c_C_isIn (l : Launch) (p0 : Int32) (p1 : Int32) (p2 : Int32) : Met l y_C_isIn w_C_isIn { frames := 0, cells := 0, slots := 0, locals := 0 } (va_Pc [.int p0, .int p1, .int p2] (fun _ => True)) (QcRead (f_C_isIn p0 p1 p2)) 0 0 (fun _ => False) := by
  refine Met.ofW (cc := b_C_isIn) (maxL := 3) (ret := (some .boolean)) (by decide +kernel) rfl ?_
  intro p e s m args below meth c s₁ B hml hv
  obtain ⟨rfl, -⟩ := hv
  have hx := B.exec
  have hb := B.bytes
  have hr := B.returns
  have hlocks := B.notSynchronized
  have hts0 := atoms_spec (ws := w_C_isIn) B.pre
  have hts : ∀ w ∈ TT, w.before [.int p0, .int p1, .int p2].toArray s = true := fun w h => hts0 w (List.mem_cons_of_mem _ h)
  have hown : s.vm.findClass R_C = some m.cls := findClass_of_methodNamed B.named
  have hl := lv_entry ([.int p0, .int p1, .int p2]) (n := 3) (Nat.le_of_ble_eq_true rfl)
  rw [lg_entry_eq]
  generalize (lg_sl ([.int p0, .int p1, .int p2]) ++ List.replicate (3 - (lg_sl ([.int p0, .int p1, .int p2])).length) Slot.unset).toArray = ls at hl ⊢
  have hl : lv_has ls 3 [(0, .int p0), (1, .int p1), (2, .int p2)] := hl
  have he := f_C_isIn.eq_1 p0 p1 p2
  refine lv_iload_n hx hb d_C_isIn_0 rfl (lv_at hl 0 rfl) ?_
  refine lv_iload_n hx hb d_C_isIn_1 rfl (lv_at hl 1 rfl) ?_
  refine lv_icmp_lt (tgt := 14) hx hb d_C_isIn_2 (by decide) (fun hc1 => ?_) (fun hc1 => ?_)
  · have he := he.trans (if_pos hc1)
    refine lv_iconst (v := 0) hx hb d_C_isIn_14 (by decide) ?_
    exact W.zret (v := 0) hx hb hr (by decide) (fun t ht _ => ⟨by rw [he], ht⟩) (fun _ h => nomatch h) d_C_isIn_15
  · have he := he.trans (if_neg hc1)
    refine lv_iload_n hx hb d_C_isIn_5 rfl (lv_at hl 0 rfl) ?_
    refine lv_iload_n hx hb d_C_isIn_6 rfl (lv_at hl 2 rfl) ?_
    refine lv_icmp_gt (tgt := 14) hx hb d_C_isIn_7 (by decide) (fun hc2 => ?_) (fun hc2 => ?_)
    · have he := he.trans (if_pos hc2)
      refine lv_iconst (v := 0) hx hb d_C_isIn_14 (by decide) ?_
      exact W.zret (v := 0) hx hb hr (by decide) (fun t ht _ => ⟨by rw [he], ht⟩) (fun _ h => nomatch h) d_C_isIn_15
    · have he := he.trans (if_neg hc2)
      refine lv_iconst (v := 1) hx hb d_C_isIn_10 (by decide) ?_
      refine lv_goto (tgt := 15) hx hb d_C_isIn_11 (by decide) ?_
      exact W.zret (v := 1) hx hb hr (by decide) (fun t ht _ => ⟨by rw [he], ht⟩) (fun _ h => nomatch h) d_C_isIn_15
