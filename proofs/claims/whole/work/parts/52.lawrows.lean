-- what holds while the law goes on
def lA (s : State) : Nat → Prop := fun q => s.heap.size ≤ q
def LG (D : va_G) (cI cT cH cL : ClassId) (aC aM : Nat → Nat) (oa : Nat) (s : State) : Prop :=
  va_K D cls9 (ty9 cI cT cH) s ∧ va_K D cls9 [(cL, .long)] s ∧ nwA s ∧ vx_Zq Bundle.tN "UNASSIGNED_STACK" Bundle.steD (lA s) s s.heap ∧ vx_Zq Bundle.tN "SUPPRESSED_SENTINEL" Bundle.listD (lA s) s s.heap ∧ xR s ∧ (∀ w ∈ xT9, va_Nw w s) ∧ va_Nc eA eS s ∧
  (∀ i j, i < 27 → j < 27 → aC i = aC j → i = j) ∧ (∀ i j, i < 13 → j < 13 → aM i = aM j → i = j) ∧ (∀ i j, i < 27 → j < 13 → aC i ≠ aM j) ∧ (∀ i, i < 27 → aC i ≠ oa) ∧ (∀ j, j < 13 → aM j ≠ oa) ∧ (∀ i, i < 27 → s.heap.size ≤ aC i) ∧ (∀ j, j < 13 → s.heap.size ≤ aM j) ∧ s.heap.size ≤ oa
def LI (D : va_G) (cI cT cH cL : ClassId) (aC aM : Nat → Nat) (oa : Nat) (sC sM : St) (g : Nat → Int64) (s : State) (H : Heap) (locs : List Loc) : Prop :=
  va_P D cls9 (cw cI cT cH aC sC) H ∧ va_P D cls9 (mw cI aM sM) H ∧ va_P D cls9 [(oa, oE cL g)] H ∧ va_S (lA s) s.heap H locs
theorem cw_ad {cI cT cH : ClassId} {ad : Nat → Nat} {s : St} {k : Nat} {q : Nat × va_E} (h : (cw cI cT cH ad s)[k]? = some q) : k < 27 ∧ q.1 = ad k := by
  have hk : k < 27 := by
    have := (List.getElem?_eq_some_iff.mp h).1
    simpa [cw] using this
  rw [cw_at hk] at h
  obtain rfl := Option.some.inj h
  exact ⟨hk, rfl⟩
theorem mw_ad {cI : ClassId} {ad : Nat → Nat} {s : St} {k : Nat} {q : Nat × va_E} (h : (mw cI ad s)[k]? = some q) : k < 13 ∧ q.1 = ad k := by
  have hk : k < 13 := by
    have := (List.getElem?_eq_some_iff.mp h).1
    simpa [mw] using this
  rw [mw_at hk] at h
  obtain rfl := Option.some.inj h
  exact ⟨hk, rfl⟩
theorem one_ad {a : Nat} {x : va_E} {k : Nat} {q : Nat × va_E} (h : ([(a, x)] : va_W)[k]? = some q) : q.1 = a := by
  have a1 : k < 1 := (List.getElem?_eq_some_iff.mp h).1
  have a2 : k = 0 := by omega
  subst a2
  obtain rfl := Option.some.inj h
  rfl
theorem gS {own : String} {i n : Nat} {y : MethodName} {b : ByteArray} {ret : Option FieldType} {hh : List (Nat × Nat × Nat × Nat)} (h1 : Cond.methodLink own i y ∈ TT) (h2 : Cond.static y ∈ TT) (h4 : Cond.initialized y.cls ∈ TT) (h5 : Cond.codeWith y b n ret hh ∈ TT) : GoodIn TT (va_wsS own i y (Cond.codeWith y b n ret hh :: TT)) := by
  have g : ∀ w, w ∈ TT → w ∈ TT ∧ ((w.onTables && w.keeps) = true ∨ ∃ ty, w = .arrayClass ty) := fun w h => ⟨h, good_of_word (tt_good w h)⟩
  intro w hw
  simp only [va_wsS, List.cons_append, List.nil_append, List.mem_cons] at hw
  rcases hw with rfl | rfl | rfl | rfl | hw
  · exact g _ h1
  · exact g _ h2
  · exact g _ h4
  · exact g _ h5
  · exact g _ hw
section LR
variable {p : Program} {l : Launch} {e : Env} {R : Room} {s : State} {m : MethodId} {args : Array Value} {below : List Frame} {meth : Method} {c : Code} {H : Heap} {locs : List Loc} {cells slots : Nat} {Q : State → Prop}
variable {cc b : ByteArray} {nL n i na pc fr lo : Nat} {own : String} {y : MethodName} {ret : Option FieldType} {ls : Array Slot} {rest st0 As : List Value} {r0 : Int32} {hh : List (Nat × Nat × Nat × Nat)}
variable {D : va_G} {cI cT cH cL : ClassId} {aC aM : Nat → Nat} {oa : Nat} {sC sC1 sM sM1 : St} {g : Nat → Int64}
/-- the reference's calls with an answer -/
theorem lr_mI (hM : Met l y (Cond.code y b n ret :: TT) { frames := fr, cells := 0, slots := 0, locals := lo } (va_Pc (.ref (aM 0) :: As) (gW D cI cT cH (mw cI aM sM))) (qI D r0 (mw cI aM sM1) (inA aM 13)) 0 0 (inA aM 13)) (S : CallFix p m c cc nL s args TT own)
    (h1 : Cond.methodLink own i y ∈ TT) (h2 : Cond.instanceMethod y ∈ TT) (h3 : Cond.selects R_M y y ∈ TT) (h4 : Cond.initialized R_M ∈ TT) (h5 : Cond.code y b n ret ∈ TT)
    (hd : y.cls = R_M ∧ y.cls ≠ "java/lang/invoke/MethodHandle" ∧ y.cls ≠ "java/lang/invoke/VarHandle" ∧ (parseMethodDescriptor y.desc).map (fun d => d.parameters.length) = some na) (hR : fr + 1 ≤ R.frames ∧ 8 + (n + 11) + lo ≤ R.locals) (hf : cells + 0 ≤ R.cells ∧ slots + 0 ≤ R.slots)
    (G : LG D cI cT cH cL aC aM oa s) (I : LI D cI cT cH cL aC aM oa sC sM g s H locs)
    (hn : As.length = na) (hsize : ls.size = nL) (hst : st0 = As.reverse ++ .ref (aM 0) :: rest) (hroom : (rest.map fun v => v.category).sum ≤ 8) (hdg : decode cc pc = .ok (.invokevirtual i, 3))
    (kk : ∀ (H1 : Heap) (locs1 : List Loc), LI D cI cT cH cL aC aM oa sC sM1 g s H1 locs1 → W p l e R s m args below meth c H1 locs1 cells slots Q (F0 m (pc + 3) ls (.int r0 :: rest))) : W p l e R s m args below meth c H locs cells slots Q (F0 m pc ls st0) := by
  obtain ⟨-, -, -, -, hts⟩ := id S
  obtain ⟨hK, hKL, hN, -, -, -, -, -, hIC, hIM, hCM, hCo, hMo, hAC, hAM, hAo⟩ := G
  obtain ⟨hPc, hPm, hPo, hS⟩ := I
  refine va_calli (va_runV S hM (cwV na hts (gV h1 h2 h3 h4 h5) rfl rfl rfl hd hR) ⟨gW_blind, va_recv (q0 := 0) (ci := 4) hK hPm rfl mw_0, gW_pre hPm hK hN⟩ (g := F0 m pc ls st0) rfl hn hsize hst (lv_room hroom) hdg hf) hS (fun q _ h => by obtain ⟨j, hj, rfl⟩ := h; exact hAM j hj) (fun q h => by obtain ⟨j, hj, rfl⟩ := h; exact hAM j hj)
    (fun r u t H1 locs1 ht _ hr hB _ hkk hS1 => ?_)
  have hr : r = r0 := hr
  subst hr
  refine kk H1 locs1 ⟨hPc.kept (fun k x hk => hkk x.1 (hPc k x hk).lt (fun z => ?_)), by rw [← ht]; exact hB, hPo.kept (fun k x hk => hkk x.1 (hPo k x hk).lt (fun z => ?_)), hS1⟩
  · obtain ⟨j, hj, ej⟩ := z
    obtain ⟨a1, a2⟩ := cw_ad hk
    exact hCM k j a1 hj (a2.symm.trans ej)
  · obtain ⟨j, hj, ej⟩ := z
    exact hMo j hj (ej.symm.trans (one_ad hk))
/-- the reference's calls without an answer -/
theorem lr_mV (hM : Met l y (Cond.code y b n ret :: TT) { frames := fr, cells := 0, slots := 0, locals := lo } (va_Pc (.ref (aM 0) :: As) (gW D cI cT cH (mw cI aM sM))) (qV D (mw cI aM sM1) (inA aM 13)) 0 0 (inA aM 13)) (S : CallFix p m c cc nL s args TT own)
    (h1 : Cond.methodLink own i y ∈ TT) (h2 : Cond.instanceMethod y ∈ TT) (h3 : Cond.selects R_M y y ∈ TT) (h4 : Cond.initialized R_M ∈ TT) (h5 : Cond.code y b n ret ∈ TT)
    (hd : y.cls = R_M ∧ y.cls ≠ "java/lang/invoke/MethodHandle" ∧ y.cls ≠ "java/lang/invoke/VarHandle" ∧ (parseMethodDescriptor y.desc).map (fun d => d.parameters.length) = some na) (hR : fr + 1 ≤ R.frames ∧ 8 + (n + 11) + lo ≤ R.locals) (hf : cells + 0 ≤ R.cells ∧ slots + 0 ≤ R.slots)
    (G : LG D cI cT cH cL aC aM oa s) (I : LI D cI cT cH cL aC aM oa sC sM g s H locs)
    (hn : As.length = na) (hsize : ls.size = nL) (hst : st0 = As.reverse ++ .ref (aM 0) :: rest) (hroom : (rest.map fun v => v.category).sum ≤ 8) (hdg : decode cc pc = .ok (.invokevirtual i, 3))
    (kk : ∀ (H1 : Heap) (locs1 : List Loc), LI D cI cT cH cL aC aM oa sC sM1 g s H1 locs1 → W p l e R s m args below meth c H1 locs1 cells slots Q (F0 m (pc + 3) ls rest)) : W p l e R s m args below meth c H locs cells slots Q (F0 m pc ls st0) := by
  obtain ⟨-, -, -, -, hts⟩ := id S
  obtain ⟨hK, hKL, hN, -, -, -, -, -, hIC, hIM, hCM, hCo, hMo, hAC, hAM, hAo⟩ := G
  obtain ⟨hPc, hPm, hPo, hS⟩ := I
  refine va_callv (va_runV S hM (cwV na hts (gV h1 h2 h3 h4 h5) rfl rfl rfl hd hR) ⟨gW_blind, va_recv (q0 := 0) (ci := 4) hK hPm rfl mw_0, gW_pre hPm hK hN⟩ (g := F0 m pc ls st0) rfl hn hsize hst (lv_room hroom) hdg hf) hS (fun q _ h => by obtain ⟨j, hj, rfl⟩ := h; exact hAM j hj) (fun q h => by obtain ⟨j, hj, rfl⟩ := h; exact hAM j hj)
    (fun u t H1 locs1 ht _ _ hB _ hkk hS1 => ?_)
  refine kk H1 locs1 ⟨hPc.kept (fun k x hk => hkk x.1 (hPc k x hk).lt (fun z => ?_)), by rw [← ht]; exact hB, hPo.kept (fun k x hk => hkk x.1 (hPo k x hk).lt (fun z => ?_)), hS1⟩
  · obtain ⟨j, hj, ej⟩ := z
    obtain ⟨a1, a2⟩ := cw_ad hk
    exact hCM k j a1 hj (a2.symm.trans ej)
  · obtain ⟨j, hj, ej⟩ := z
    exact hMo j hj (ej.symm.trans (one_ad hk))
theorem lr_pre {av : List Value} (G : LG D cI cT cH cL aC aM oa s) (I : LI D cI cT cH cL aC aM oa sC sM g s H locs) : ∀ U : State, U.heap = H → s.WarmedH U.vm → va_Pc av (hW D cI cT cH aC sC) av.toArray U := by
  obtain ⟨hK, hKL, hN, hU, hZ, hR, hT, hNc, hIC, hIM, hCM, hCo, hMo, hAC, hAM, hAo⟩ := G
  obtain ⟨hPc, hPm, hPo, hS⟩ := I
  have hin : ∀ q, inA aC 27 q → lA s q := fun q h => by obtain ⟨j, hj, rfl⟩ := h; exact hAC j hj
  intro U hUh hW
  have h := xW_pre (av := av) hPc hK hN ((hU.kept hS.2.1).narrow hin) ((hZ.kept hS.2.1).narrow hin) hR hT U hUh hW
  exact ⟨rfl, h.2, va_Nc.moved hW.alike hNc⟩
/-- a helper of the law, no row for the answer -/
theorem lr_h (hM : Met l y (Cond.codeWith y b n ret hh :: TT) { frames := fr, cells := 1, slots := 6, locals := lo } (va_Pc As (hW D cI cT cH aC sC)) (va_Qi (S := Unit) (fun r _ => r = r0) (fun _ t => va_P D cls9 (cw cI cT cH aC sC1) t.heap) (inA aC 27)) 1 6 (inA aC 27)) (S : CallFix p m c cc nL s args TT own)
    (h1 : Cond.methodLink own i y ∈ TT) (h2 : Cond.static y ∈ TT) (h4 : Cond.initialized y.cls ∈ TT) (h5 : Cond.codeWith y b n ret hh ∈ TT)
    (hd : y.cls ≠ "java/lang/invoke/MethodHandle" ∧ y.cls ≠ "java/lang/invoke/VarHandle" ∧ (parseMethodDescriptor y.desc).map (fun d => d.parameters.length) = some na) (hR : fr + 1 ≤ R.frames ∧ 8 + (n + 11) + lo ≤ R.locals) (hf : cells + 1 ≤ R.cells ∧ slots + 6 ≤ R.slots)
    (G : LG D cI cT cH cL aC aM oa s) (I : LI D cI cT cH cL aC aM oa sC sM g s H locs)
    (hn : As.length = na) (hsize : ls.size = nL) (hst : st0 = As.reverse ++ rest) (hroom : (rest.map fun v => v.category).sum ≤ 8) (hdg : decode cc pc = .ok (.invokestatic i, 3))
    (kk : ∀ (H1 : Heap) (locs1 : List Loc), LI D cI cT cH cL aC aM oa sC1 sM g s H1 locs1 → W p l e R s m args below meth c H1 locs1 (cells + 1) (slots + 6) Q (F0 m (pc + 3) ls (.int r0 :: rest))) : W p l e R s m args below meth c H locs cells slots Q (F0 m pc ls st0) := by
  obtain ⟨-, -, -, -, hts⟩ := id S
  have hpre := lr_pre (av := As) G I
  obtain ⟨hK, hKL, hN, -, -, -, -, -, hIC, hIM, hCM, hCo, hMo, hAC, hAM, hAo⟩ := G
  obtain ⟨hPc, hPm, hPo, hS⟩ := I
  refine va_calli (vx_runSW S hM (vx_cwSW na hts (gS h1 h2 h4 h5) rfl rfl rfl hd hR) ⟨hW_blind, hpre⟩ (g := F0 m pc ls st0) rfl hn hsize hst (lv_room hroom) hdg hf) hS (fun q _ h => by obtain ⟨j, hj, rfl⟩ := h; exact hAC j hj) (fun q h => by obtain ⟨j, hj, rfl⟩ := h; exact hAC j hj)
    (fun r u t H1 locs1 ht _ hr hB _ hkk hS1 => ?_)
  have hr : r = r0 := hr
  subst hr
  refine kk H1 locs1 ⟨by rw [← ht]; exact hB, hPm.kept (fun k x hk => hkk x.1 (hPm k x hk).lt (fun z => ?_)), hPo.kept (fun k x hk => hkk x.1 (hPo k x hk).lt (fun z => ?_)), hS1⟩
  · obtain ⟨j, hj, ej⟩ := z
    obtain ⟨a1, a2⟩ := mw_ad hk
    exact hCM j k hj a1 (ej.symm.trans a2)
  · obtain ⟨j, hj, ej⟩ := z
    exact hCo j hj (ej.symm.trans (one_ad hk))
/-- a helper of the law that lays the answer down -/
theorem lr_ho {pg : (Nat → Int64) → Prop} (hM : Met l y (Cond.codeWith y b n ret hh :: TT) { frames := fr, cells := 1, slots := 6, locals := lo } (va_Pc As (oW D cI cT cH cL aC sC oa g)) (va_Qi (S := Nat → Int64) (fun r g9 => r = r0 ∧ pg g9) (fun g9 t => va_P D cls9 (cw cI cT cH aC sC1) t.heap ∧ va_P D cls9 [(oa, oE cL g9)] t.heap) (oA aC oa)) 1 6 (oA aC oa)) (S : CallFix p m c cc nL s args TT own)
    (h1 : Cond.methodLink own i y ∈ TT) (h2 : Cond.static y ∈ TT) (h4 : Cond.initialized y.cls ∈ TT) (h5 : Cond.codeWith y b n ret hh ∈ TT)
    (hd : y.cls ≠ "java/lang/invoke/MethodHandle" ∧ y.cls ≠ "java/lang/invoke/VarHandle" ∧ (parseMethodDescriptor y.desc).map (fun d => d.parameters.length) = some na) (hR : fr + 1 ≤ R.frames ∧ 8 + (n + 11) + lo ≤ R.locals) (hf : cells + 1 ≤ R.cells ∧ slots + 6 ≤ R.slots)
    (G : LG D cI cT cH cL aC aM oa s) (I : LI D cI cT cH cL aC aM oa sC sM g s H locs)
    (hn : As.length = na) (hsize : ls.size = nL) (hst : st0 = As.reverse ++ rest) (hroom : (rest.map fun v => v.category).sum ≤ 8) (hdg : decode cc pc = .ok (.invokestatic i, 3))
    (kk : ∀ (g1 : Nat → Int64) (H1 : Heap) (locs1 : List Loc), pg g1 → LI D cI cT cH cL aC aM oa sC1 sM g1 s H1 locs1 → W p l e R s m args below meth c H1 locs1 (cells + 1) (slots + 6) Q (F0 m (pc + 3) ls (.int r0 :: rest))) : W p l e R s m args below meth c H locs cells slots Q (F0 m pc ls st0) := by
  obtain ⟨-, -, -, -, hts⟩ := id S
  have hpre := lr_pre (av := As) G I
  obtain ⟨hK, hKL, hN, -, -, -, -, -, hIC, hIM, hCM, hCo, hMo, hAC, hAM, hAo⟩ := G
  obtain ⟨hPc, hPm, hPo, hS⟩ := I
  have hin : ∀ q, oA aC oa q → lA s q := fun q h => h.elim (fun h => by obtain ⟨j, hj, rfl⟩ := h; exact hAC j hj) (fun h => by rw [h]; exact hAo)
  refine va_calli (vx_runSW S hM (vx_cwSW na hts (gS h1 h2 h4 h5) rfl rfl rfl hd hR) ⟨oW_blind, fun U hU hW => ⟨rfl, (hpre U hU hW).2, by rw [hU]; exact hPo, va_K.moved hW.alike hKL⟩⟩ (g := F0 m pc ls st0) rfl hn hsize hst (lv_room hroom) hdg hf) hS (fun q _ h => hin q h) hin
    (fun r u t H1 locs1 ht _ hr hB _ hkk hS1 => ?_)
  obtain ⟨hr, hpg⟩ := hr
  subst hr
  refine kk u H1 locs1 hpg ⟨by rw [← ht]; exact hB.1, hPm.kept (fun k x hk => hkk x.1 (hPm k x hk).lt (fun z => ?_)), by rw [← ht]; exact hB.2, hS1⟩
  obtain ⟨a1, a2⟩ := mw_ad hk
  rcases z with z | z
  · obtain ⟨j, hj, ej⟩ := z
    exact hCM j k hj a1 (ej.symm.trans a2)
  · exact hMo k a1 (a2.symm.trans z)
end LR
