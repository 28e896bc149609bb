-- the class's constructor
def c00 : St := fun j k => if (j = 0 ∧ k = 6) ∨ (5 ≤ j ∧ j < 21 ∧ j % 2 = 1 ∧ k = 7) ∨ (21 ≤ j ∧ (k = 1 ∨ k = 2)) then (-1) else 0
def ctT (ad : Nat → Nat) : Nat → Nat → Option Nat
  | 0 => fun _ => none
  | n + 1 => va_up (ctT ad n) n (some (ad (5 + 2 * n)))
def ctH (ad : Nat → Nat) : Nat → Nat → Option Nat
  | 0 => fun _ => none
  | n + 1 => va_up (ctH ad n) n (some (ad (21 + n)))
/-- what cell j holds while the rows are filled: nt tasks, nh things are there -/
def pE (cI cT cH : ClassId) (ad : Nat → Nat) (nt nh j : Nat) : va_E :=
  if j = 1 then .inl (cT, 8, .inr (.inr (.inr (.inr (ctT ad nt)))))
  else if j = 2 then .inl (cH, 6, .inr (.inr (.inr (.inr (ctH ad nh)))))
  else cE cI cT cH ad c00 j
def pw (cI cT cH : ClassId) (ad : Nat → Nat) (n nt nh : Nat) : va_W := (List.range n).map (fun j => (ad j, pE cI cT cH ad nt nh j))
theorem arrV_ext {cA : ClassId} {N : Nat} {f g : Nat → Value} (h : ∀ j, j < N → f j = g j) : arrV cA N f = arrV cA N g := by
  have e : (fun j : Fin N => f j.val) = fun j : Fin N => g j.val := funext fun j => h _ j.isLt
  unfold arrV
  rw [e]
section PW
variable {cI cT cH : ClassId} {ad ad' : Nat → Nat} {n nt nh : Nat}
theorem pw_at {j : Nat} (h : j < n) : (pw cI cT cH ad n nt nh)[j]? = some (ad j, pE cI cT cH ad nt nh j) := by
  simp [pw, h]
theorem pw_no {j : Nat} {q : Nat × va_E} (h : (pw cI cT cH ad n nt nh)[j]? = some q) : j < n := by
  have := (List.getElem?_eq_some_iff.mp h).1
  simpa [pw] using this
theorem pw_D {A : Nat → Prop} (hI : ∀ i j, i < n → j < n → ad i = ad j → i = j) (hA : ∀ j, j < n → A (ad j)) : va_D A (pw cI cT cH ad n nt nh) := by
  refine ⟨fun i j p q h1 h2 h => ?_, fun k q hk => ?_⟩
  · have a1 := pw_no h1
    have a2 := pw_no h2
    rw [pw_at a1] at h1
    rw [pw_at a2] at h2
    obtain rfl := Option.some.inj h1
    obtain rfl := Option.some.inj h2
    exact hI i j a1 a2 h
  · have a1 := pw_no hk
    rw [pw_at a1] at hk
    obtain rfl := Option.some.inj hk
    exact hA k a1
theorem ctT_congr (h : ∀ i, i < nt → ad' (5 + 2 * i) = ad (5 + 2 * i)) : ctT ad' nt = ctT ad nt := by
  induction nt with
  | zero => rfl
  | succ k ih => rw [ctT, ctT, ih (fun i hi => h i (by omega)), h k (by omega)]
theorem ctH_congr (h : ∀ i, i < nh → ad' (21 + i) = ad (21 + i)) : ctH ad' nh = ctH ad nh := by
  induction nh with
  | zero => rfl
  | succ k ih => rw [ctH, ctH, ih (fun i hi => h i (by omega)), h k (by omega)]
theorem ctT_at {i : Nat} (h : i < nt) : ctT ad nt i = some (ad (5 + 2 * i)) := by
  induction nt with
  | zero => omega
  | succ k ih =>
    rw [ctT]
    unfold va_up
    by_cases e : i = k
    · rw [if_pos e, e]
    · rw [if_neg e]; exact ih (by omega)
theorem ctH_at {i : Nat} (h : i < nh) : ctH ad nh i = some (ad (21 + i)) := by
  induction nh with
  | zero => omega
  | succ k ih =>
    rw [ctH]
    unfold va_up
    by_cases e : i = k
    · rw [if_pos e, e]
    · rw [if_neg e]; exact ih (by omega)
/-- entries below n speak of addresses below n alone -/
theorem pE_congr {j : Nat} (h5 : 5 ≤ n) (hj : j < n) (hp : n % 2 = 1 ∨ 21 ≤ n) (ht : 5 + 2 * nt ≤ n) (hh : nh = 0 ∨ 21 + nh ≤ n) (h : ∀ i, i < n → ad' i = ad i) : pE cI cT cH ad' nt nh j = pE cI cT cH ad nt nh j := by
  unfold pE
  rw [ctT_congr (fun i hi => h _ (by omega)), ctH_congr (fun i hi => h _ (by omega))]
  by_cases h1 : j = 1
  · rw [if_pos h1, if_pos h1]
  rw [if_neg h1, if_neg h1]
  by_cases h2 : j = 2
  · rw [if_pos h2, if_pos h2]
  rw [if_neg h2, if_neg h2]
  unfold cE
  by_cases z0 : j = 0
  · rw [if_pos z0, if_pos z0]
    unfold oF
    rw [h 1 (by omega), h 2 (by omega), h 3 (by omega)]
  rw [if_neg z0, if_neg z0, if_neg h1, if_neg h1, if_neg h2, if_neg h2]
  by_cases z3 : j = 3
  · rw [if_pos z3, if_pos z3]
    unfold bF
    rw [h 4 (by omega)]
  rw [if_neg z3, if_neg z3]
  by_cases z4 : j = 4
  · rw [if_pos z4, if_pos z4]
  rw [if_neg z4, if_neg z4]
  by_cases z21 : 21 ≤ j
  · rw [if_pos z21, if_pos z21]
  rw [if_neg z21, if_neg z21]
  by_cases zo : j % 2 = 1
  · rw [if_pos zo, if_pos zo]
    unfold tF
    rw [h (j + 1) (by omega)]
  · rw [if_neg zo, if_neg zo]
theorem pw_set1 (hn : 1 < n) : (pw cI cT cH ad n nt nh).set 1 (ad 1, .inl (cT, 8, .inr (.inr (.inr (.inr (va_up (ctT ad nt) nt (some (ad (5 + 2 * nt))))))))) = pw cI cT cH ad n (nt + 1) nh := by
  apply List.ext_getElem?
  intro j
  by_cases hj : j < n
  · rw [pw_at (nt := nt + 1) hj]
    by_cases e1 : j = 1
    · subst e1
      rw [List.getElem?_set_self (by simpa [pw] using hn)]
      rfl
    · rw [List.getElem?_set_ne (fun h => e1 h.symm), pw_at hj]
      unfold pE
      rw [if_neg e1, if_neg e1]
  · rw [List.getElem?_eq_none (by simpa [pw] using Nat.not_lt.mp hj), List.getElem?_eq_none (by simpa [pw] using Nat.not_lt.mp hj)]
theorem pw_set2 (hn : 2 < n) : (pw cI cT cH ad n nt nh).set 2 (ad 2, .inl (cH, 6, .inr (.inr (.inr (.inr (va_up (ctH ad nh) nh (some (ad (21 + nh))))))))) = pw cI cT cH ad n nt (nh + 1) := by
  apply List.ext_getElem?
  intro j
  by_cases hj : j < n
  · rw [pw_at (nh := nh + 1) hj]
    by_cases e1 : j = 2
    · subst e1
      rw [List.getElem?_set_self (by simpa [pw] using hn)]
      rfl
    · rw [List.getElem?_set_ne (fun h => e1 h.symm), pw_at hj]
      unfold pE
      rw [if_neg e1, if_neg e1]
  · rw [List.getElem?_eq_none (by simpa [pw] using Nat.not_lt.mp hj), List.getElem?_eq_none (by simpa [pw] using Nat.not_lt.mp hj)]
/-- all rows full: the world -/
theorem pw_full {D : va_G} {H : Heap} (h : va_P D cls9 (pw cI cT cH ad 27 8 6) H) : va_P D cls9 (cw cI cT cH ad c00) H := by
  intro k q hk
  have hk27 : k < 27 := by
    have := (List.getElem?_eq_some_iff.mp hk).1
    simpa [cw] using this
  rw [cw_at hk27] at hk
  obtain rfl := Option.some.inj hk
  have h1 := h k _ (pw_at hk27)
  by_cases e1 : k = 1
  · subst e1
    have h2 : H[ad 1]? = some (vp_cell cT (8, .inr (.inr (.inr (.inr (ctT ad 8)))))) := h1
    show H[ad 1]? = some (vp_cell cT (8, .inr (.inr (.inr (.inr (fun i => some (ad (5 + 2 * i))))))))
    rw [h2, vp_cell_q, vp_cell_q]
    exact congrArg some (arrV_ext fun i hi => by rw [ctT_at hi])
  · by_cases e2 : k = 2
    · subst e2
      have h2 : H[ad 2]? = some (vp_cell cH (6, .inr (.inr (.inr (.inr (ctH ad 6)))))) := h1
      show H[ad 2]? = some (vp_cell cH (6, .inr (.inr (.inr (.inr (fun i => some (ad (21 + i))))))))
      rw [h2, vp_cell_q, vp_cell_q]
      exact congrArg some (arrV_ext fun i hi => by rw [ctH_at hi])
    · unfold pE at h1
      rw [if_neg e1, if_neg e2] at h1
      exact h1
end PW
/-- a constructor's start, for the caller -/
theorem ct_blind {D : va_G} {cI cT cH : ClassId} {ws : va_W} {av : List Value} {sz : Nat} : FrameBlind (va_Pc av (fun U => U.heap.size = sz ∧ gW D cI cT cH ws U)) := fun a U g mk q => by
  obtain ⟨q0, qz, qP, qK, qN⟩ := q
  exact ⟨q0, qz, qP, va_K.moved (u := U) (U := U.calling g mk a) (Vm.Alike.refl U.vm) qK, nwA.same (u := U) rfl qN⟩
theorem ct_pre {D : va_G} {cI cT cH : ClassId} {ws : va_W} {av : List Value} {s : State} {H : Heap} (hP : va_P D cls9 ws H) (hK : va_K D cls9 (ty9 cI cT cH) s) (hN : nwA s) : ∀ U : State, U.heap = H → s.WarmedH U.vm → va_Pc av (fun U => U.heap.size = H.size ∧ gW D cI cT cH ws U) av.toArray U :=
  fun U hU hW => ⟨rfl, by rw [hU], by rw [hU]; exact hP, va_K.moved hW.alike hK, hN.warm hW⟩
theorem gI {y : MethodName} {b : ByteArray} {n : Nat} {ret : Option FieldType} (h5 : Cond.code y b n ret ∈ TT) : GoodIn TT (Cond.code y b n ret :: TT) := by
  intro w hw
  rcases List.mem_cons.mp hw with rfl | hw
  · exact ⟨h5, good_of_word (tt_good _ h5)⟩
  · exact ⟨hw, good_of_word (tt_good _ hw)⟩
theorem raT {D : va_G} {cA cI cT cH : ClassId} {s : State} (h2 : va_K D cls9 (ty9 cI cT cH ++ [(cA, .object R_T)]) s) (h : va_K D cls9 (ty9 cI cT cH) s) : cA = cT := by
  obtain ⟨_, _, -, -, -, h3⟩ := (h2.2 3 _ rfl).2
  obtain ⟨_, _, -, -, -, h4⟩ := (h.2 1 _ rfl).2
  exact Option.some.inj (h3.symm.trans h4)
theorem raH {D : va_G} {cA cI cT cH : ClassId} {s : State} (h2 : va_K D cls9 (ty9 cI cT cH ++ [(cA, .object R_H)]) s) (h : va_K D cls9 (ty9 cI cT cH) s) : cA = cH := by
  obtain ⟨_, _, -, -, -, h3⟩ := (h2.2 3 _ rfl).2
  obtain ⟨_, _, -, -, -, h4⟩ := (h.2 2 _ rfl).2
  exact Option.some.inj (h3.symm.trans h4)
theorem tF00 {ad : Nat → Nat} {i : Nat} (h : i < 8) : tF ad c00 (5 + 2 * i) = [.int 0, .int 0, .int 0, .ref (ad (5 + 2 * i + 1)), .int 0, .int 0, .int 0, .int (-1), .int 0, .int 0] := by
  have e : ∀ k, k ≠ 7 → c00 (5 + 2 * i) k = 0 := fun k hk => if_neg (by omega)
  have e7 : c00 (5 + 2 * i) 7 = (-1) := if_pos (Or.inr (Or.inl ⟨by omega, by omega, by omega, rfl⟩))
  unfold tF
  rw [e 0 (by decide), e 1 (by decide), e 2 (by decide), e 4 (by decide), e 5 (by decide), e 6 (by decide), e7, e 8 (by decide), e 9 (by decide)]
theorem lF00 {i : Nat} (h : i < 8) : c00 (5 + 2 * i + 1) = fun _ => 0 := funext fun k => if_neg (by omega)
theorem hF00 {i : Nat} : hF c00 (21 + i) = [.int 0, .int (-1), .int (-1), .int 0] := by
  have e0 : c00 (21 + i) 0 = 0 := if_neg (by omega)
  have e1 : c00 (21 + i) 1 = (-1) := if_pos (Or.inr (Or.inr ⟨by omega, Or.inl rfl⟩))
  have e2 : c00 (21 + i) 2 = (-1) := if_pos (Or.inr (Or.inr ⟨by omega, Or.inr rfl⟩))
  have e3 : c00 (21 + i) 3 = 0 := if_neg (by omega)
  unfold hF
  rw [e0, e1, e2, e3]
theorem va_D5 {A : Nat → Prop} {a b c d e : Nat} {ea eb ec ed ed2 ee : va_E} {ws : va_W} (h : va_D A ws) (h0 : ws[0]? = some (a, ea)) (h1 : ws[1]? = some (b, eb)) (h2 : ws[2]? = some (c, ec)) (h3 : ws[3]? = some (d, ed)) (hA : A e) (n0 : a ≠ e) (n1 : b ≠ e) (n2 : c ≠ e) (n3 : d ≠ e) : va_D A [(a, ea), (b, eb), (c, ec), (d, ed2), (e, ee)] := by
  have hl : ∀ (k : Nat) (q : Nat × va_E), ([(a, ea), (b, eb), (c, ec), (d, ed2), (e, ee)] : va_W)[k]? = some q → (k = 0 ∧ q.1 = a) ∨ (k = 1 ∧ q.1 = b) ∨ (k = 2 ∧ q.1 = c) ∨ (k = 3 ∧ q.1 = d) ∨ (k = 4 ∧ q.1 = e) := by
    intro k q hk
    have hk5 : k < 5 := (List.getElem?_eq_some_iff.mp hk).1
    rcases (show k = 0 ∨ k = 1 ∨ k = 2 ∨ k = 3 ∨ k = 4 by omega) with rfl | rfl | rfl | rfl | rfl <;> obtain rfl := Option.some.inj hk <;> simp
  have ab := fun z => h.1 0 1 _ _ h0 h1 z
  have ac := fun z => h.1 0 2 _ _ h0 h2 z
  have adx := fun z => h.1 0 3 _ _ h0 h3 z
  have bc := fun z => h.1 1 2 _ _ h1 h2 z
  have bd := fun z => h.1 1 3 _ _ h1 h3 z
  have cd := fun z => h.1 2 3 _ _ h2 h3 z
  refine ⟨fun i j p q hi hj hpq => ?_, fun k q hk => ?_⟩
  · rcases hl i p hi with ⟨rfl, e1⟩ | ⟨rfl, e1⟩ | ⟨rfl, e1⟩ | ⟨rfl, e1⟩ | ⟨rfl, e1⟩ <;> rcases hl j q hj with ⟨rfl, e2⟩ | ⟨rfl, e2⟩ | ⟨rfl, e2⟩ | ⟨rfl, e2⟩ | ⟨rfl, e2⟩ <;> first | rfl | (rw [e1, e2] at hpq; first | exact ab hpq | exact ac hpq | exact adx hpq | exact bc hpq | exact bd hpq | exact cd hpq | exact (ab hpq.symm).symm | exact (ac hpq.symm).symm | exact (adx hpq.symm).symm | exact (bc hpq.symm).symm | exact (bd hpq.symm).symm | exact (cd hpq.symm).symm | exact absurd hpq n0 | exact absurd hpq n1 | exact absurd hpq n2 | exact absurd hpq n3 | exact absurd hpq.symm n0 | exact absurd hpq.symm n1 | exact absurd hpq.symm n2 | exact absurd hpq.symm n3)
  · rcases hl k q hk with ⟨-, e1⟩ | ⟨-, e1⟩ | ⟨-, e1⟩ | ⟨-, e1⟩ | ⟨-, e1⟩ <;> rw [e1]
    · exact h.2 0 _ h0
    · exact h.2 1 _ h1
    · exact h.2 2 _ h2
    · exact h.2 3 _ h3
    · exact hA
set_option maxHeartbeats 4000000 in
set_option maxRecDepth 100000 in
theorem c_C_init (l : Launch) (D : va_G) (cI cT cH : ClassId) (h0 sz : Nat) : Met l y_C_init w_C_init { frames := 2, cells := 26, slots := 208, locals := 40 } (va_Pc [.ref h0] (fun U => U.heap.size = sz ∧ va_AO R_T U ∧ va_AO R_H U ∧ gW D cI cT cH [(h0, .inr (0, [.null, .null, .null, .int 0, .int 0, .int 0, .int 0]))] U)) (va_Qv (S := Nat → Nat) (fun ad => ad 0 = h0 ∧ (∀ j, 0 < j → j < 27 → sz ≤ ad j) ∧ ∀ i j, i < 27 → j < 27 → ad i = ad j → i = j) (fun ad t => va_P D cls9 (cw cI cT cH ad c00) t.heap) (fun q => q = h0 ∨ sz ≤ q)) 26 208 (fun q => q = h0 ∨ sz ≤ q) := by
  refine Met.ofW (cc := b_C_init) (maxL := 2) (ret := none) (by decide +kernel) rfl ?_
  intro p e s m args below meth c s₁ B hml hv
  obtain ⟨rfl, hsz, hOT, hOH, hP, hK, hN⟩ := hv
  have hx := B.exec
  have hb := B.bytes
  have hr := B.returns
  have hlocks := B.notSynchronized
  have hts0 := atoms_spec (ws := w_C_init) B.pre
  have hts : ∀ w ∈ TT, w.before [Value.ref h0].toArray s = true := fun w h => hts0 w (List.mem_cons_of_mem _ h)
  have hown : s.vm.findClass R_C = some m.cls := findClass_of_methodNamed B.named
  have hin : meth.name = "<init>" := (name_of_methodNamed B.named B.method).1
  subst hsz
  generalize hAe : (fun q => q = h0 ∨ s.heap.size ≤ q) = A
  have hA : ∀ q : Nat, s.heap.size ≤ q → A q := fun q h => by rw [← hAe]; exact Or.inr h
  have hAn : ∀ q : Nat, A q → q = h0 ∨ s.heap.size ≤ q := fun q h => by rw [← hAe] at h; exact h
  have hD : va_D A [(h0, .inr (0, [.null, .null, .null, .int 0, .int 0, .int 0, .int 0]))] := va_D1 (by rw [← hAe]; exact Or.inl rfl)
  have hS : va_S A s.heap s.heap [] := va_S.rf
  have hl := lv_entry ([.ref h0]) (n := 2) (Nat.le_of_ble_eq_true rfl)
  rw [lg_entry_eq]
  generalize (lg_sl ([.ref h0]) ++ List.replicate (2 - (lg_sl ([.ref h0])).length) Slot.unset).toArray = ls at hl ⊢
  have hl : lv_has ls 2 [(0, .ref h0)] := hl
  refine lv_aload_n hx hb d_C_init_0 rfl (lv_at hl 0 rfl) ?_
  refine W.objInit hx hb hown (hts _ k_40) (hts _ k_41) (hts _ k_42) rfl (by rw [hml]; exact hl.1) rfl d_C_init_1 (Nat.le_of_ble_eq_true rfl) (Nat.le_of_ble_eq_true rfl) ?_
  refine W.eq (g2 := F0 m 4 ls []) rfl ?_
  refine lv_aload_n hx hb d_C_init_4 rfl (lv_at hl 0 rfl) ?_
  refine lv_bipush (v := 8) hx hb d_C_init_5 (by decide) ?_
  refine va_newq (n := 8) (N' := 8) hx hb hown (hts _ k_43) hOT hK hP hD hS hA (by decide) (by decide) (by decide) (Nat.le_of_ble_eq_true rfl) (Nat.le_of_ble_eq_true rfl) d_C_init_7 (fun q7 cA H hK2 hP hD hS => ?_)
  rw [raT hK2 hK] at hP hD
  have hzq7 : A q7 := hD.2 1 _ rfl
  have hP : va_P D cls9 [(h0, .inr (0, [.null, .null, .null, .int 0, .int 0, .int 0, .int 0])), (q7, .inl (cT, 8, .inr (.inr (.inr (.inr (fun _ => none))))))] H := hP
  have hD : va_D A [(h0, .inr (0, [.null, .null, .null, .int 0, .int 0, .int 0, .int 0])), (q7, .inl (cT, 8, .inr (.inr (.inr (.inr (fun _ => none))))))] := hD
  refine W.widen (k := 1) (n := 8) (by omega) (by omega) ?_
  refine va_putF (D := D) (ci := 0) (v := .ref q7) (ty := .array (.object "CeilingDispatch$Task")) (C := R_C) (T := F_C) (N := 7) hx hb hts in_C ft_C ft_C_ok n_C hown hK hP hD hS 0 rfl rfl 0 (by decide) (hts _ k_129) (fun _ h9 => h9) rfl hin rfl (by decide +kernel) rfl rfl (Nat.le_of_ble_eq_true rfl) d_C_init_10 (fun H locs hP hD hS => ?_)
  have hP : va_P D cls9 [(h0, .inr (0, [.ref q7, .null, .null, .int 0, .int 0, .int 0, .int 0])), (q7, .inl (cT, 8, .inr (.inr (.inr (.inr (fun _ => none))))))] H := hP
  have hD : va_D A [(h0, .inr (0, [.ref q7, .null, .null, .int 0, .int 0, .int 0, .int 0])), (q7, .inl (cT, 8, .inr (.inr (.inr (.inr (fun _ => none))))))] := hD
  refine lv_aload_n hx hb d_C_init_13 rfl (lv_at hl 0 rfl) ?_
  refine lv_bipush (v := 6) hx hb d_C_init_14 (by decide) ?_
  refine va_newq (n := 6) (N' := 6) hx hb hown (hts _ k_45) hOH hK hP hD hS hA (by decide) (by decide) (by decide) (Nat.le_of_ble_eq_true rfl) (Nat.le_of_ble_eq_true rfl) d_C_init_16 (fun q16 cA H hK2 hP hD hS => ?_)
  rw [raH hK2 hK] at hP hD
  have hzq16 : A q16 := hD.2 2 _ rfl
  have hP : va_P D cls9 [(h0, .inr (0, [.ref q7, .null, .null, .int 0, .int 0, .int 0, .int 0])), (q7, .inl (cT, 8, .inr (.inr (.inr (.inr (fun _ => none)))))), (q16, .inl (cH, 6, .inr (.inr (.inr (.inr (fun _ => none))))))] H := hP
  have hD : va_D A [(h0, .inr (0, [.ref q7, .null, .null, .int 0, .int 0, .int 0, .int 0])), (q7, .inl (cT, 8, .inr (.inr (.inr (.inr (fun _ => none)))))), (q16, .inl (cH, 6, .inr (.inr (.inr (.inr (fun _ => none))))))] := hD
  refine W.widen (k := 2) (n := 14) (by omega) (by omega) ?_
  refine va_putF (D := D) (ci := 0) (v := .ref q16) (ty := .array (.object "CeilingDispatch$Thing")) (C := R_C) (T := F_C) (N := 7) hx hb hts in_C ft_C ft_C_ok n_C hown hK hP hD hS 0 rfl rfl 1 (by decide) (hts _ k_130) (fun _ h9 => h9) rfl hin rfl (by decide +kernel) rfl rfl (Nat.le_of_ble_eq_true rfl) d_C_init_19 (fun H locs hP hD hS => ?_)
  have hP : va_P D cls9 [(h0, .inr (0, [.ref q7, .ref q16, .null, .int 0, .int 0, .int 0, .int 0])), (q7, .inl (cT, 8, .inr (.inr (.inr (.inr (fun _ => none)))))), (q16, .inl (cH, 6, .inr (.inr (.inr (.inr (fun _ => none))))))] H := hP
  have hD : va_D A [(h0, .inr (0, [.ref q7, .ref q16, .null, .int 0, .int 0, .int 0, .int 0])), (q7, .inl (cT, 8, .inr (.inr (.inr (.inr (fun _ => none)))))), (q16, .inl (cH, 6, .inr (.inr (.inr (.inr (fun _ => none))))))] := hD
  refine lv_aload_n hx hb d_C_init_22 rfl (lv_at hl 0 rfl) ?_
  refine va_new (ci := 3) (fs := [.null, .int 0]) (C := R_N) (T := F_N) (N := 2) hx hb hts in_N ft_N ft_N_ok hown (hts _ k_47) (hts _ k_48) (hts _ k_25) hK hP hD hS hA rfl (fun j hj => by rcases (show j = 0 ∨ j = 1 by omega) with rfl | rfl <;> rfl) (Nat.le_of_ble_eq_true rfl) (Nat.le_of_ble_eq_true rfl) d_C_init_23 (fun q23 H hP hD hS => ?_)
  have hP : va_P D cls9 [(h0, .inr (0, [.ref q7, .ref q16, .null, .int 0, .int 0, .int 0, .int 0])), (q7, .inl (cT, 8, .inr (.inr (.inr (.inr (fun _ => none)))))), (q16, .inl (cH, 6, .inr (.inr (.inr (.inr (fun _ => none)))))), (q23, .inr (3, [.null, .int 0]))] H := hP
  have hD : va_D A [(h0, .inr (0, [.ref q7, .ref q16, .null, .int 0, .int 0, .int 0, .int 0])), (q7, .inl (cT, 8, .inr (.inr (.inr (.inr (fun _ => none)))))), (q16, .inl (cH, 6, .inr (.inr (.inr (.inr (fun _ => none)))))), (q23, .inr (3, [.null, .int 0]))] := hD
  have hzq23 : A q23 := hD.2 3 _ rfl
  refine W.widen (k := 3) (n := 16) (by omega) (by omega) ?_
  refine lv_dup hx hb d_C_init_26 rfl ?_
  have hAq : A q23 := hzq23
  have hPlast : va_at D cls9 (q23, .inr (3, [.null, .int 0])) H := hP 3 _ rfl
  have hroom : 3 + 1 ≤ 26 ∧ 16 + 40 ≤ 208 := by decide
  have hPq : va_P D cls9 [(q23, .inr (3, [.null, .int 0]))] H := fun k x hk => by have a1 : k < 1 := (List.getElem?_eq_some_iff.mp hk).1; have a2 : k = 0 := (by omega); subst a2; obtain rfl := Option.some.inj hk; exact hPlast
  refine va_callv (va_runIN (As := []) (rest := [.ref q23, .ref h0]) ⟨hx, hb, hml, hown, hts⟩ (c_N_init l D cI cT cH q23 H.size) ⟨va_cnB 0 hts (gI k_51) rfl rfl rfl (hN _ nk_C_23) (hts _ k_25) (by decide +kernel) (by decide), rfl, hts _ k_50⟩ ⟨ct_blind, ct_pre hPq hK hN⟩ (g := F0 m 27 ls (.ref q23 :: [.ref q23, .ref h0])) rfl rfl hl.1 rfl (lv_room (Nat.le_of_ble_eq_true rfl)) d_C_init_27 hroom) hS (fun x h1 h2 => h2.elim (fun z => by rw [z]; exact hAq) (fun z => absurd h1 (by omega))) (fun x h2 => h2.elim (fun z => by rw [z]; exact hAq) (fun z => hA x (Nat.le_trans hS.1 z))) (fun q27 t H1 locs1 ht _ hpost hB hzz hkk hS1 => ?_)
  rw [ht] at hB
  have hPo : va_P D cls9 [(h0, .inr (0, [.ref q7, .ref q16, .null, .int 0, .int 0, .int 0, .int 0])), (q7, .inl (cT, 8, .inr (.inr (.inr (.inr (fun _ => none)))))), (q16, .inl (cH, 6, .inr (.inr (.inr (.inr (fun _ => none))))))] H1 := by
    have hP3 : va_P D cls9 [(h0, .inr (0, [.ref q7, .ref q16, .null, .int 0, .int 0, .int 0, .int 0])), (q7, .inl (cT, 8, .inr (.inr (.inr (.inr (fun _ => none)))))), (q16, .inl (cH, 6, .inr (.inr (.inr (.inr (fun _ => none))))))] H := hP.sub [0, 1, 2] rfl
    refine hP3.kept (fun k x hk => hkk x.1 (hP3 k x hk).lt (fun z => ?_))
    have a1 : k < 3 := (List.getElem?_eq_some_iff.mp hk).1
    rcases z with z | z
    · have a2 := hD.1 k 3 x _ (by rcases (show k = 0 ∨ k = 1 ∨ k = 2 by omega) with rfl | rfl | rfl <;> exact hk) rfl z
      omega
    · exact absurd (hP3 k x hk).lt (by omega)
  have hq27 : H.size ≤ q27 := hpost.2
  have hPn : va_P D cls9 [(h0, .inr (0, [.ref q7, .ref q16, .null, .int 0, .int 0, .int 0, .int 0])), (q7, .inl (cT, 8, .inr (.inr (.inr (.inr (fun _ => none)))))), (q16, .inl (cH, 6, .inr (.inr (.inr (.inr (fun _ => none)))))), (q23, .inr (3, [.ref q27, .int 0])), (q27, .inl (cI, 40, .inl (fun _ => 0)))] H1 := hPo.app hB
  have hDn : va_D A [(h0, .inr (0, [.ref q7, .ref q16, .null, .int 0, .int 0, .int 0, .int 0])), (q7, .inl (cT, 8, .inr (.inr (.inr (.inr (fun _ => none)))))), (q16, .inl (cH, 6, .inr (.inr (.inr (.inr (fun _ => none)))))), (q23, .inr (3, [.ref q27, .int 0])), (q27, .inl (cI, 40, .inl (fun _ => 0)))] := by
    have h3 := hD
    refine va_D5 hD rfl rfl rfl rfl (hA _ (Nat.le_trans hS.1 hq27)) ?_ ?_ ?_ ?_
    · exact fun z => absurd (hP 0 _ rfl).lt (by rw [z]; exact Nat.not_lt.mpr hq27)
    · exact fun z => absurd (hP 1 _ rfl).lt (by rw [z]; exact Nat.not_lt.mpr hq27)
    · exact fun z => absurd (hP 2 _ rfl).lt (by rw [z]; exact Nat.not_lt.mpr hq27)
    · exact fun z => absurd (hP 3 _ rfl).lt (by rw [z]; exact Nat.not_lt.mpr hq27)
  generalize H1 = H at hPn hS1 ⊢
  have hP := hPn
  have hD := hDn
  have hS := hS1
  refine W.eq (g2 := F0 m 30 ls [.ref q23, .ref h0]) rfl ?_
  refine W.widen (k := 4) (n := 56) (by omega) (by omega) ?_
  refine va_putF (D := D) (ci := 0) (v := .ref q23) (ty := .object "CeilingDispatch$NoteBook") (C := R_C) (T := F_C) (N := 7) hx hb hts in_C ft_C ft_C_ok n_C hown hK hP hD hS 0 rfl rfl 2 (by decide) (hts _ k_131) (fun _ h9 => h9) rfl hin rfl (by decide +kernel) rfl rfl (Nat.le_of_ble_eq_true rfl) d_C_init_30 (fun H locs hP hD hS => ?_)
  have hP : va_P D cls9 [(h0, .inr (0, [.ref q7, .ref q16, .ref q23, .int 0, .int 0, .int 0, .int 0])), (q7, .inl (cT, 8, .inr (.inr (.inr (.inr (fun _ => none)))))), (q16, .inl (cH, 6, .inr (.inr (.inr (.inr (fun _ => none)))))), (q23, .inr (3, [.ref q27, .int 0])), (q27, .inl (cI, 40, .inl (fun _ => 0)))] H := hP
  have hD : va_D A [(h0, .inr (0, [.ref q7, .ref q16, .ref q23, .int 0, .int 0, .int 0, .int 0])), (q7, .inl (cT, 8, .inr (.inr (.inr (.inr (fun _ => none)))))), (q16, .inl (cH, 6, .inr (.inr (.inr (.inr (fun _ => none)))))), (q23, .inr (3, [.ref q27, .int 0])), (q27, .inl (cI, 40, .inl (fun _ => 0)))] := hD
  refine lv_aload_n hx hb d_C_init_33 rfl (lv_at hl 0 rfl) ?_
  refine lv_iconst (v := 0) hx hb d_C_init_34 (by decide) ?_
  refine va_put (D := D) (ci := 0) (v := .int 0) (ty := .boolean) (C := R_C) (T := F_C) (N := 7) hx hb hts in_C ft_C ft_C_ok n_C hown hK hP hD hS 0 rfl rfl 3 (by decide) (hts _ k_132) (fun _ h9 => h9) rfl (by decide +kernel) rfl rfl (Nat.le_of_ble_eq_true rfl) d_C_init_35 (fun H locs hP hD hS => ?_)
  have hP : va_P D cls9 [(h0, .inr (0, [.ref q7, .ref q16, .ref q23, .int 0, .int 0, .int 0, .int 0])), (q7, .inl (cT, 8, .inr (.inr (.inr (.inr (fun _ => none)))))), (q16, .inl (cH, 6, .inr (.inr (.inr (.inr (fun _ => none)))))), (q23, .inr (3, [.ref q27, .int 0])), (q27, .inl (cI, 40, .inl (fun _ => 0)))] H := hP
  have hD : va_D A [(h0, .inr (0, [.ref q7, .ref q16, .ref q23, .int 0, .int 0, .int 0, .int 0])), (q7, .inl (cT, 8, .inr (.inr (.inr (.inr (fun _ => none)))))), (q16, .inl (cH, 6, .inr (.inr (.inr (.inr (fun _ => none)))))), (q23, .inr (3, [.ref q27, .int 0])), (q27, .inl (cI, 40, .inl (fun _ => 0)))] := hD
  refine lv_aload_n hx hb d_C_init_38 rfl (lv_at hl 0 rfl) ?_
  refine lv_iconst (v := 0) hx hb d_C_init_39 (by decide) ?_
  refine va_put (D := D) (ci := 0) (v := .int 0) (ty := .int) (C := R_C) (T := F_C) (N := 7) hx hb hts in_C ft_C ft_C_ok n_C hown hK hP hD hS 0 rfl rfl 4 (by decide) (hts _ k_133) (fun _ h9 => h9) rfl (by decide +kernel) rfl rfl (Nat.le_of_ble_eq_true rfl) d_C_init_40 (fun H locs hP hD hS => ?_)
  have hP : va_P D cls9 [(h0, .inr (0, [.ref q7, .ref q16, .ref q23, .int 0, .int 0, .int 0, .int 0])), (q7, .inl (cT, 8, .inr (.inr (.inr (.inr (fun _ => none)))))), (q16, .inl (cH, 6, .inr (.inr (.inr (.inr (fun _ => none)))))), (q23, .inr (3, [.ref q27, .int 0])), (q27, .inl (cI, 40, .inl (fun _ => 0)))] H := hP
  have hD : va_D A [(h0, .inr (0, [.ref q7, .ref q16, .ref q23, .int 0, .int 0, .int 0, .int 0])), (q7, .inl (cT, 8, .inr (.inr (.inr (.inr (fun _ => none)))))), (q16, .inl (cH, 6, .inr (.inr (.inr (.inr (fun _ => none)))))), (q23, .inr (3, [.ref q27, .int 0])), (q27, .inl (cI, 40, .inl (fun _ => 0)))] := hD
  refine lv_aload_n hx hb d_C_init_43 rfl (lv_at hl 0 rfl) ?_
  refine lv_iconst (v := 0) hx hb d_C_init_44 (by decide) ?_
  refine va_put (D := D) (ci := 0) (v := .int 0) (ty := .int) (C := R_C) (T := F_C) (N := 7) hx hb hts in_C ft_C ft_C_ok n_C hown hK hP hD hS 0 rfl rfl 5 (by decide) (hts _ k_134) (fun _ h9 => h9) rfl (by decide +kernel) rfl rfl (Nat.le_of_ble_eq_true rfl) d_C_init_45 (fun H locs hP hD hS => ?_)
  have hP : va_P D cls9 [(h0, .inr (0, [.ref q7, .ref q16, .ref q23, .int 0, .int 0, .int 0, .int 0])), (q7, .inl (cT, 8, .inr (.inr (.inr (.inr (fun _ => none)))))), (q16, .inl (cH, 6, .inr (.inr (.inr (.inr (fun _ => none)))))), (q23, .inr (3, [.ref q27, .int 0])), (q27, .inl (cI, 40, .inl (fun _ => 0)))] H := hP
  have hD : va_D A [(h0, .inr (0, [.ref q7, .ref q16, .ref q23, .int 0, .int 0, .int 0, .int 0])), (q7, .inl (cT, 8, .inr (.inr (.inr (.inr (fun _ => none)))))), (q16, .inl (cH, 6, .inr (.inr (.inr (.inr (fun _ => none)))))), (q23, .inr (3, [.ref q27, .int 0])), (q27, .inl (cI, 40, .inl (fun _ => 0)))] := hD
  refine lv_aload_n hx hb d_C_init_48 rfl (lv_at hl 0 rfl) ?_
  refine lv_iconst (v := (-1)) hx hb d_C_init_49 (by decide) ?_
  refine va_put (D := D) (ci := 0) (v := .int (-1)) (ty := .int) (C := R_C) (T := F_C) (N := 7) hx hb hts in_C ft_C ft_C_ok n_C hown hK hP hD hS 0 rfl rfl 6 (by decide) (hts _ k_135) (fun _ h9 => h9) rfl (by decide +kernel) rfl rfl (Nat.le_of_ble_eq_true rfl) d_C_init_50 (fun H locs hP hD hS => ?_)
  have hP : va_P D cls9 [(h0, .inr (0, [.ref q7, .ref q16, .ref q23, .int 0, .int 0, .int 0, .int (-1)])), (q7, .inl (cT, 8, .inr (.inr (.inr (.inr (fun _ => none)))))), (q16, .inl (cH, 6, .inr (.inr (.inr (.inr (fun _ => none)))))), (q23, .inr (3, [.ref q27, .int 0])), (q27, .inl (cI, 40, .inl (fun _ => 0)))] H := hP
  have hD : va_D A [(h0, .inr (0, [.ref q7, .ref q16, .ref q23, .int 0, .int 0, .int 0, .int (-1)])), (q7, .inl (cT, 8, .inr (.inr (.inr (.inr (fun _ => none)))))), (q16, .inl (cH, 6, .inr (.inr (.inr (.inr (fun _ => none)))))), (q23, .inr (3, [.ref q27, .int 0])), (q27, .inl (cI, 40, .inl (fun _ => 0)))] := hD
  obtain ⟨ad, had⟩ : ∃ z : Nat → Nat, z = fun j => [h0, q7, q16, q23, q27].getD j 0 := ⟨_, rfl⟩
  have hw : ([(h0, .inr (0, [.ref q7, .ref q16, .ref q23, .int 0, .int 0, .int 0, .int (-1)])), (q7, .inl (cT, 8, .inr (.inr (.inr (.inr (fun _ => none)))))), (q16, .inl (cH, 6, .inr (.inr (.inr (.inr (fun _ => none)))))), (q23, .inr (3, [.ref q27, .int 0])), (q27, .inl (cI, 40, .inl (fun _ => 0)))] : va_W) = pw cI cT cH ad 5 0 0 := by rw [had]; rfl
  rw [hw] at hP hD
  have hI : ∀ i j, i < 5 → j < 5 → ad i = ad j → i = j := fun i j hi hj h => hD.1 i j _ _ (pw_at hi) (pw_at hj) h
  have hAd : ∀ j, j < 5 → A (ad j) := fun j h2 => hD.2 j _ (pw_at h2)
  have hz0 : ad 0 = h0 := by rw [had]; rfl
  have L82 : ∀ (n i : Nat) (ad : Nat → Nat) (H : Heap) (locs : List Loc) (ls : Array Slot), i + n = 6 → lv_has ls 2 [(1, .int (nI i)), (0, .ref h0)] → ad 0 = h0 → (∀ a b, a < 21 + 1 * i → b < 21 + 1 * i → ad a = ad b → a = b) → (∀ j, j < 21 + 1 * i → A (ad j)) → va_P D cls9 (pw cI cT cH ad (21 + 1 * i) 8 i) H → va_S A s.heap H locs → W p l e (headSpec w_C_init { frames := 2, cells := 26, slots := 208, locals := 40 }).room s m [Value.ref h0].toArray below meth c H locs (20 + 1 * i) (184 + 4 * i) (MQ below (va_Qv (S := Nat → Nat) (fun ad => ad 0 = h0 ∧ (∀ j, 0 < j → j < 27 → s.heap.size ≤ ad j) ∧ ∀ i j, i < 27 → j < 27 → ad i = ad j → i = j) (fun ad t => va_P D cls9 (cw cI cT cH ad c00) t.heap) A) [Value.ref h0].toArray s 26 208 A) (F0 m 82 ls []) := by
    intro n
    induction n with
    | zero =>
      intro i ad H locs ls hcnt hl hz0 hI hAd hP hS
      have hz : i = 6 := by omega
      subst hz
      refine lv_iload_n hx hb d_C_init_82 rfl (lv_at hl 0 rfl) ?_
      refine lv_bipush (v := 6) hx hb d_C_init_83 (by decide) ?_
      refine lv_icmp_ge (tgt := 107) hx hb d_C_init_85 (by decide) (fun _ => ?_) (fun h9 => absurd (by decide) h9)
      exact W.vret hx hb hr (fun t ht _ => ⟨⟨ad, rfl, ⟨hz0, fun j h1 h2 => (hAn _ (hAd j h2)).resolve_left (fun z => absurd (hI j 0 h2 (by decide) (z.trans hz0.symm)) (by omega)), hI⟩, by show va_P _ _ _ t.heap; rw [ht]; exact pw_full hP⟩, hS.F ht⟩) hS.2.2 d_C_init_107
    | succ n ih =>
      intro i ad H locs ls hcnt hl hz0 hI hAd hP hS
      have hi8 : i < 6 := by omega
      refine lv_iload_n hx hb d_C_init_82 rfl (lv_at hl 0 rfl) ?_
      refine lv_bipush (v := 6) hx hb d_C_init_83 (by decide) ?_
      refine lv_icmp_ge (tgt := 107) hx hb d_C_init_85 (by decide) (fun h9 => absurd h9 (nlt_6 hi8)) (fun _ => ?_)
      have hD : va_D A (pw cI cT cH ad (21 + 1 * i) 8 i) := pw_D hI hAd
      refine lv_aload_n hx hb d_C_init_88 rfl (lv_at hl 1 rfl) ?_
      refine W.eq (g2 := F0 m 89 ls [.ref (ad 0)]) (by rw [hz0]) ?_
      refine va_get (D := D) (ci := 0) (v := .ref (ad 2)) (C := R_C) (T := F_C) (N := 7) hx hb hts in_C hown hK hP 0 (pw_at (by omega)) rfl 1 (by decide) (hts _ k_130) (fun _ h9 => h9) rfl d_C_init_89 ?_
      refine lv_iload_n hx hb d_C_init_92 rfl (lv_at hl 0 rfl) ?_
      refine va_new (ci := 2) (fs := [.int 0, .int 0, .int 0, .int 0]) (C := R_H) (T := F_H) (N := 4) hx hb hts in_H ft_H ft_H_ok hown (hts _ k_45) (hts _ k_107) (hts _ k_27) hK hP hD hS hA rfl (fun j hj => by rcases (show j = 0 ∨ j = 1 ∨ j = 2 ∨ j = 3 by omega) with rfl | rfl | rfl | rfl <;> rfl) (by show 20 + 1 * i + 1 ≤ 26; omega) (by show 184 + 4 * i + 4 ≤ 208; omega) d_C_init_93 (fun q93 H hP hD hS => ?_)
      have hlen : (pw cI cT cH ad (21 + 1 * i) 8 i).length = 21 + 1 * i := by simp [pw]
      have hlast : (pw cI cT cH ad (21 + 1 * i) 8 i ++ [(q93, .inr (2, [.int 0, .int 0, .int 0, .int 0]))])[21 + 1 * i]? = some (q93, .inr (2, [.int 0, .int 0, .int 0, .int 0])) := by rw [List.getElem?_append_right (by omega), hlen]; simp
      have hpre : ∀ (k : Nat) (x : Nat × va_E), (pw cI cT cH ad (21 + 1 * i) 8 i)[k]? = some x → (pw cI cT cH ad (21 + 1 * i) 8 i ++ [(q93, .inr (2, [.int 0, .int 0, .int 0, .int 0]))])[k]? = some x := fun k x hk => by rw [List.getElem?_append_left (List.getElem?_eq_some_iff.mp hk).1]; exact hk
      have hPlast : va_at D cls9 (q93, .inr (2, [.int 0, .int 0, .int 0, .int 0])) H := hP _ _ hlast
      have hAq : A q93 := hD.2 _ _ hlast
      have hP0 : va_P D cls9 (pw cI cT cH ad (21 + 1 * i) 8 i) H := fun k x hk => hP k x (hpre k x hk)
      have hfr : ∀ j, j < 21 + 1 * i → ad j ≠ q93 := fun j hj z => by have a1 := hD.1 j (21 + 1 * i) _ _ (hpre j _ (pw_at hj)) hlast z; omega
      have hroom : (20 + 1 * i + 1) + 0 ≤ 26 ∧ (184 + 4 * i + 4) + 0 ≤ 208 := by omega
      refine lv_dup hx hb d_C_init_96 rfl ?_
      have hPq : va_P D cls9 [(q93, .inr (2, [.int 0, .int 0, .int 0, .int 0]))] H := fun k x hk => by have a1 : k < 1 := (List.getElem?_eq_some_iff.mp hk).1; have a2 : k = 0 := (by omega); subst a2; obtain rfl := Option.some.inj hk; exact hPlast
      refine va_callv (va_runIN (As := []) (rest := [.ref q93, .int (nI i), .ref (ad 2)]) ⟨hx, hb, hml, hown, hts⟩ (c_H_init l D cI cT cH q93 H.size) ⟨va_cnB 0 hts (gI k_110) rfl rfl rfl (hN _ nk_C_43) (hts _ k_27) (by decide +kernel) (by decide), rfl, hts _ k_109⟩ ⟨ct_blind, ct_pre hPq hK hN⟩ (g := F0 m 97 ls (.ref q93 :: [.ref q93, .int (nI i), .ref (ad 2)])) rfl rfl hl.1 rfl (lv_room (Nat.le_of_ble_eq_true rfl)) d_C_init_97 hroom) hS (fun x h1 h2 => h2.elim (fun z => by rw [z]; exact hAq) (fun z => absurd h1 (by omega))) (fun x h2 => h2.elim (fun z => by rw [z]; exact hAq) (fun z => hA x (Nat.le_trans hS.1 z))) (fun u9 t H1 locs1 ht _ hpost hB hzz hkk hS1 => ?_)
      rw [ht] at hB
      have hPo : va_P D cls9 (pw cI cT cH ad (21 + 1 * i) 8 i) H1 := hP0.kept (fun k x hk => hkk x.1 (hP0 k x hk).lt (fun z => z.elim (fun z => by have a1 := pw_no hk; rw [pw_at a1] at hk; obtain rfl := Option.some.inj hk; exact hfr k a1 z) (fun z => absurd (hP0 k x hk).lt (by omega))))
      obtain ⟨ad2, had2⟩ : ∃ z : Nat → Nat, z = fun j => if j = 21 + 1 * i then q93 else ad j := ⟨_, rfl⟩
      have hold : ∀ j, j < 21 + 1 * i → ad2 j = ad j := fun j hj => by rw [had2]; show (if _ then _ else _) = _; rw [if_neg (by omega)]
      have hnew : ad2 (21 + 1 * i) = q93 := by rw [had2]; exact if_pos rfl
      have hP2 : va_P D cls9 (pw cI cT cH ad2 (21 + 1 * (i + 1)) 8 i) H1 := by
        intro k x hk
        have a1 := pw_no hk
        rw [pw_at a1] at hk
        obtain rfl := Option.some.inj hk
        by_cases z : k < 21 + 1 * i
        · rw [hold k z, pE_congr (n := 21 + 1 * i) (by omega) z (by omega) (by omega) (by omega) hold]
          exact hPo k _ (pw_at z)
        · have z2 : k = 21 + 1 * i := by omega
          subst z2
          rw [hnew]
          unfold pE
          rw [if_neg (by omega), if_neg (by omega), show 21 + 1 * i = 21 + i by omega, cE_h hi8, hF00]
          exact hB 0 _ rfl
      have hI2 : ∀ a b, a < 21 + 1 * (i + 1) → b < 21 + 1 * (i + 1) → ad2 a = ad2 b → a = b := by
        have hsm : ∀ j, j < 21 + 1 * i → ad j < H.size := fun j hj => (hP0 j _ (pw_at hj)).lt
        have hqs : q93 < H.size := hPlast.lt
        intro a b ha hb h
        rcases (show a < 21 + 1 * i ∨ a = 21 + 1 * i by omega) with a1 | a1 <;> rcases (show b < 21 + 1 * i ∨ b = 21 + 1 * i by omega) with b1 | b1
        · rw [hold _ a1, hold _ b1] at h; exact hI a b a1 b1 h
        · exact absurd (((hold a a1).symm.trans h).trans (by rw [b1]; exact hnew)) (hfr a a1)
        · exact absurd (((hold b b1).symm.trans h.symm).trans (by rw [a1]; exact hnew)) (hfr b b1)
        · rw [a1, b1]
      have hA2 : ∀ j, j < 21 + 1 * (i + 1) → A (ad2 j) := by
        intro j hj
        by_cases z : j < 21 + 1 * i
        · rw [hold j z]; exact hAd j z
        · rw [show j = 21 + 1 * i by omega, hnew]; exact hAq
      have hpush : (pw cI cT cH ad2 (21 + 1 * (i + 1)) 8 i)[21 + 1 * i]? = some (q93, pE cI cT cH ad2 8 i (21 + 1 * i)) := by rw [pw_at (by omega), hnew]
      have hpe : pE cI cT cH ad2 8 i (21 + 1 * i) = .inr (2, hF c00 (21 + i)) := by unfold pE; rw [if_neg (by omega), if_neg (by omega), show 21 + 1 * i = 21 + i by omega, cE_h hi8]
      rw [hpe] at hpush
      refine W.eq (g2 := F0 m 100 ls [.ref q93, .int (nI i), .ref (ad2 2)]) (by rw [hold 2 (by omega)]) ?_
      refine va_astq (A := A) (q0 := 2) (t0 := 2) (qk := 21 + 1 * i) (ci := 2) (r := (R_H, F_H, 4)) hx hb hK hP2 (pw_D hI2 hA2) hS1 (pw_at (by omega)) rfl hpush rfl (vp_in_nI hi8 (by decide)) d_C_init_100 (fun H locs hP _ hS => ?_)
      rw [show (nI i).toNatClampNeg = i from nI_clamp (by omega)] at hP
      rw [← hnew, show 21 + 1 * i = 21 + i by omega, pw_set2 (by omega)] at hP
      refine lv_iinc (k := 0) (v := (nI (i + 1))) hx hb d_C_init_101 hl rfl (by rw [nI_succ]; rfl) (by decide) rfl (fun ls hl => ?_)
      refine lv_goto (tgt := 82) hx hb d_C_init_104 (by decide) ?_
      refine W.widen (k := 20 + 1 * (i + 1)) (n := 184 + 4 * (i + 1)) (by omega) (by omega) ?_
      exact ih (i + 1) ad2 H locs ls (by omega) hl (by rw [hold 0 (by omega)]; exact hz0) hI2 hA2 hP hS
  have L55 : ∀ (n i : Nat) (ad : Nat → Nat) (H : Heap) (locs : List Loc) (ls : Array Slot), i + n = 8 → lv_has ls 2 [(1, .int (nI i)), (0, .ref h0)] → ad 0 = h0 → (∀ a b, a < 5 + 2 * i → b < 5 + 2 * i → ad a = ad b → a = b) → (∀ j, j < 5 + 2 * i → A (ad j)) → va_P D cls9 (pw cI cT cH ad (5 + 2 * i) i 0) H → va_S A s.heap H locs → W p l e (headSpec w_C_init { frames := 2, cells := 26, slots := 208, locals := 40 }).room s m [Value.ref h0].toArray below meth c H locs (4 + 2 * i) (56 + 16 * i) (MQ below (va_Qv (S := Nat → Nat) (fun ad => ad 0 = h0 ∧ (∀ j, 0 < j → j < 27 → s.heap.size ≤ ad j) ∧ ∀ i j, i < 27 → j < 27 → ad i = ad j → i = j) (fun ad t => va_P D cls9 (cw cI cT cH ad c00) t.heap) A) [Value.ref h0].toArray s 26 208 A) (F0 m 55 ls []) := by
    intro n
    induction n with
    | zero =>
      intro i ad H locs ls hcnt hl hz0 hI hAd hP hS
      have hz : i = 8 := by omega
      subst hz
      refine lv_iload_n hx hb d_C_init_55 rfl (lv_at hl 0 rfl) ?_
      refine lv_bipush (v := 8) hx hb d_C_init_56 (by decide) ?_
      refine lv_icmp_ge (tgt := 80) hx hb d_C_init_58 (by decide) (fun _ => ?_) (fun h9 => absurd (by decide) h9)
      refine lv_iconst (v := 0) hx hb d_C_init_80 (by decide) ?_
      refine lv_istore_n hx hb d_C_init_81 rfl hl (by decide) rfl (fun ls hl => ?_)
      exact L82 6 0 ad H locs ls (by decide) hl hz0 hI hAd hP hS
    | succ n ih =>
      intro i ad H locs ls hcnt hl hz0 hI hAd hP hS
      have hi8 : i < 8 := by omega
      refine lv_iload_n hx hb d_C_init_55 rfl (lv_at hl 0 rfl) ?_
      refine lv_bipush (v := 8) hx hb d_C_init_56 (by decide) ?_
      refine lv_icmp_ge (tgt := 80) hx hb d_C_init_58 (by decide) (fun h9 => absurd h9 (nlt_8 hi8)) (fun _ => ?_)
      have hD : va_D A (pw cI cT cH ad (5 + 2 * i) i 0) := pw_D hI hAd
      refine lv_aload_n hx hb d_C_init_61 rfl (lv_at hl 1 rfl) ?_
      refine W.eq (g2 := F0 m 62 ls [.ref (ad 0)]) (by rw [hz0]) ?_
      refine va_get (D := D) (ci := 0) (v := .ref (ad 1)) (C := R_C) (T := F_C) (N := 7) hx hb hts in_C hown hK hP 0 (pw_at (by omega)) rfl 0 (by decide) (hts _ k_129) (fun _ h9 => h9) rfl d_C_init_62 ?_
      refine lv_iload_n hx hb d_C_init_65 rfl (lv_at hl 0 rfl) ?_
      refine va_new (ci := 1) (fs := [.int 0, .int 0, .int 0, .null, .int 0, .int 0, .int 0, .int 0, .int 0, .int 0]) (C := R_T) (T := F_T) (N := 10) hx hb hts in_T ft_T ft_T_ok hown (hts _ k_43) (hts _ k_62) (hts _ k_26) hK hP hD hS hA rfl (fun j hj => by rcases (show j = 0 ∨ j = 1 ∨ j = 2 ∨ j = 3 ∨ j = 4 ∨ j = 5 ∨ j = 6 ∨ j = 7 ∨ j = 8 ∨ j = 9 by omega) with rfl | rfl | rfl | rfl | rfl | rfl | rfl | rfl | rfl | rfl <;> rfl) (by show 4 + 2 * i + 1 ≤ 26; omega) (by show 56 + 16 * i + 10 ≤ 208; omega) d_C_init_66 (fun q66 H hP hD hS => ?_)
      have hlen : (pw cI cT cH ad (5 + 2 * i) i 0).length = 5 + 2 * i := by simp [pw]
      have hlast : (pw cI cT cH ad (5 + 2 * i) i 0 ++ [(q66, .inr (1, [.int 0, .int 0, .int 0, .null, .int 0, .int 0, .int 0, .int 0, .int 0, .int 0]))])[5 + 2 * i]? = some (q66, .inr (1, [.int 0, .int 0, .int 0, .null, .int 0, .int 0, .int 0, .int 0, .int 0, .int 0])) := by rw [List.getElem?_append_right (by omega), hlen]; simp
      have hpre : ∀ (k : Nat) (x : Nat × va_E), (pw cI cT cH ad (5 + 2 * i) i 0)[k]? = some x → (pw cI cT cH ad (5 + 2 * i) i 0 ++ [(q66, .inr (1, [.int 0, .int 0, .int 0, .null, .int 0, .int 0, .int 0, .int 0, .int 0, .int 0]))])[k]? = some x := fun k x hk => by rw [List.getElem?_append_left (List.getElem?_eq_some_iff.mp hk).1]; exact hk
      have hPlast : va_at D cls9 (q66, .inr (1, [.int 0, .int 0, .int 0, .null, .int 0, .int 0, .int 0, .int 0, .int 0, .int 0])) H := hP _ _ hlast
      have hAq : A q66 := hD.2 _ _ hlast
      have hP0 : va_P D cls9 (pw cI cT cH ad (5 + 2 * i) i 0) H := fun k x hk => hP k x (hpre k x hk)
      have hfr : ∀ j, j < 5 + 2 * i → ad j ≠ q66 := fun j hj z => by have a1 := hD.1 j (5 + 2 * i) _ _ (hpre j _ (pw_at hj)) hlast z; omega
      have hroom : (4 + 2 * i + 1) + 1 ≤ 26 ∧ (56 + 16 * i + 10) + 6 ≤ 208 := by omega
      refine lv_dup hx hb d_C_init_69 rfl ?_
      have hPq : va_P D cls9 [(q66, .inr (1, [.int 0, .int 0, .int 0, .null, .int 0, .int 0, .int 0, .int 0, .int 0, .int 0]))] H := fun k x hk => by have a1 : k < 1 := (List.getElem?_eq_some_iff.mp hk).1; have a2 : k = 0 := (by omega); subst a2; obtain rfl := Option.some.inj hk; exact hPlast
      refine va_callv (va_runIN (As := []) (rest := [.ref q66, .int (nI i), .ref (ad 1)]) ⟨hx, hb, hml, hown, hts⟩ (c_T_init l D cI cT cH q66 H.size) ⟨va_cnB 0 hts (gI k_65) rfl rfl rfl (hN _ nk_C_42) (hts _ k_26) (by decide +kernel) (by decide), rfl, hts _ k_64⟩ ⟨ct_blind, ct_pre hPq hK hN⟩ (g := F0 m 70 ls (.ref q66 :: [.ref q66, .int (nI i), .ref (ad 1)])) rfl rfl hl.1 rfl (lv_room (Nat.le_of_ble_eq_true rfl)) d_C_init_70 hroom) hS (fun x h1 h2 => h2.elim (fun z => by rw [z]; exact hAq) (fun z => absurd h1 (by omega))) (fun x h2 => h2.elim (fun z => by rw [z]; exact hAq) (fun z => hA x (Nat.le_trans hS.1 z))) (fun u9 t H1 locs1 ht _ hpost hB hzz hkk hS1 => ?_)
      rw [ht] at hB
      have hPo : va_P D cls9 (pw cI cT cH ad (5 + 2 * i) i 0) H1 := hP0.kept (fun k x hk => hkk x.1 (hP0 k x hk).lt (fun z => z.elim (fun z => by have a1 := pw_no hk; rw [pw_at a1] at hk; obtain rfl := Option.some.inj hk; exact hfr k a1 z) (fun z => absurd (hP0 k x hk).lt (by omega))))
      obtain ⟨ad2, had2⟩ : ∃ z : Nat → Nat, z = fun j => if j = 5 + 2 * i then q66 else if j = 5 + 2 * i + 1 then u9 else ad j := ⟨_, rfl⟩
      have hold : ∀ j, j < 5 + 2 * i → ad2 j = ad j := fun j hj => by rw [had2]; show (if _ then _ else if _ then _ else _) = _; rw [if_neg (by omega), if_neg (by omega)]
      have hnew : ad2 (5 + 2 * i) = q66 := by rw [had2]; exact if_pos rfl
      have hnew2 : ad2 (5 + 2 * i + 1) = u9 := by rw [had2]; show (if _ then _ else if _ then _ else _) = _; rw [if_neg (by omega), if_pos rfl]
      have hP2 : va_P D cls9 (pw cI cT cH ad2 (5 + 2 * (i + 1)) i 0) H1 := by
        intro k x hk
        have a1 := pw_no hk
        rw [pw_at a1] at hk
        obtain rfl := Option.some.inj hk
        by_cases z : k < 5 + 2 * i
        · rw [hold k z, pE_congr (n := 5 + 2 * i) (by omega) z (by omega) (by omega) (by omega) hold]
          exact hPo k _ (pw_at z)
        · by_cases z1 : k = 5 + 2 * i
          · subst z1
            rw [hnew]
            have a2 := hB 0 _ rfl
            rw [← hnew2] at a2
            unfold pE
            rw [if_neg (by omega), if_neg (by omega), cE_k hi8]
            rw [tF00 hi8]
            exact a2
          · have z2 : k = 5 + 2 * i + 1 := by omega
            subst z2
            rw [hnew2]
            unfold pE
            rw [if_neg (by omega), if_neg (by omega), cE_l hi8, lF00 hi8]
            exact hB 1 _ rfl
      have hI2 : ∀ a b, a < 5 + 2 * (i + 1) → b < 5 + 2 * (i + 1) → ad2 a = ad2 b → a = b := by
        have hsm : ∀ j, j < 5 + 2 * i → ad j < H.size := fun j hj => (hP0 j _ (pw_at hj)).lt
        have hqs : q66 < H.size := hPlast.lt
        intro a b ha hb h
        have hus : H.size ≤ u9 := hpost.2
        rcases (show a < 5 + 2 * i ∨ a = 5 + 2 * i ∨ a = 5 + 2 * i + 1 by omega) with a1 | a1 | a1 <;> rcases (show b < 5 + 2 * i ∨ b = 5 + 2 * i ∨ b = 5 + 2 * i + 1 by omega) with b1 | b1 | b1
        · rw [hold _ a1, hold _ b1] at h; exact hI a b a1 b1 h
        · exfalso
          rw [hold _ a1, show ad2 b = q66 from by rw [b1]; exact hnew] at h
          exact hfr a a1 h
        · exfalso
          rw [hold _ a1, show ad2 b = u9 from by rw [b1]; exact hnew2] at h
          have := hsm a a1; omega
        · exfalso
          rw [show ad2 a = q66 from by rw [a1]; exact hnew, hold _ b1] at h
          exact hfr b b1 h.symm
        · rw [a1, b1]
        · exfalso
          rw [show ad2 a = q66 from by rw [a1]; exact hnew, show ad2 b = u9 from by rw [b1]; exact hnew2] at h
          omega
        · exfalso
          rw [show ad2 a = u9 from by rw [a1]; exact hnew2, hold _ b1] at h
          have := hsm b b1; omega
        · exfalso
          rw [show ad2 a = u9 from by rw [a1]; exact hnew2, show ad2 b = q66 from by rw [b1]; exact hnew] at h
          omega
        · rw [a1, b1]
      have hA2 : ∀ j, j < 5 + 2 * (i + 1) → A (ad2 j) := by
        intro j hj
        by_cases z : j < 5 + 2 * i
        · rw [hold j z]; exact hAd j z
        · by_cases z1 : j = 5 + 2 * i
          · rw [z1, hnew]; exact hAq
          · rw [show j = 5 + 2 * i + 1 by omega, hnew2]; exact hA _ (Nat.le_trans hS.1 hpost.2)
      have hpush : (pw cI cT cH ad2 (5 + 2 * (i + 1)) i 0)[5 + 2 * i]? = some (q66, pE cI cT cH ad2 i 0 (5 + 2 * i)) := by rw [pw_at (by omega), hnew]
      have hpe : pE cI cT cH ad2 i 0 (5 + 2 * i) = .inr (1, tF ad2 c00 (5 + 2 * i)) := by unfold pE; rw [if_neg (by omega), if_neg (by omega), cE_k hi8]
      rw [hpe] at hpush
      refine W.eq (g2 := F0 m 73 ls [.ref q66, .int (nI i), .ref (ad2 1)]) (by rw [hold 1 (by omega)]) ?_
      refine va_astq (A := A) (q0 := 1) (t0 := 1) (qk := 5 + 2 * i) (ci := 1) (r := (R_T, F_T, 10)) hx hb hK hP2 (pw_D hI2 hA2) hS1 (pw_at (by omega)) rfl hpush rfl (vp_in_nI hi8 (by decide)) d_C_init_73 (fun H locs hP _ hS => ?_)
      rw [show (nI i).toNatClampNeg = i from nI_clamp (by omega)] at hP
      rw [← hnew, pw_set1 (by omega)] at hP
      refine lv_iinc (k := 0) (v := (nI (i + 1))) hx hb d_C_init_74 hl rfl (by rw [nI_succ]; rfl) (by decide) rfl (fun ls hl => ?_)
      refine lv_goto (tgt := 55) hx hb d_C_init_77 (by decide) ?_
      refine W.widen (k := 4 + 2 * (i + 1)) (n := 56 + 16 * (i + 1)) (by omega) (by omega) ?_
      exact ih (i + 1) ad2 H locs ls (by omega) hl (by rw [hold 0 (by omega)]; exact hz0) hI2 hA2 hP hS
  refine lv_iconst (v := 0) hx hb d_C_init_53 (by decide) ?_
  refine lv_istore_n hx hb d_C_init_54 rfl hl (by decide) rfl (fun ls hl => ?_)
  exact L55 8 0 ad H locs ls (by decide) hl hz0 hI hAd hP hS
