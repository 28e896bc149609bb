-- states, worlds, calls
abbrev St : Type := Nat → Nat → Int32
def wr (s : St) (c k : Nat) (v : Int32) : St := fun c' k' => if c' = c ∧ k' = k then v else s c' k'
theorem wr_eq (s : St) (c k : Nat) (v : Int32) : wr s c k v c k = v := by simp [wr]
theorem wr_ne {s : St} {c k c' k' : Nat} {v : Int32} (h : ¬ (c' = c ∧ k' = k)) : wr s c k v c' k' = s c' k' := by simp [wr, h]
theorem wr_cell {s : St} {c k c' : Nat} {v : Int32} (h : c' ≠ c) : wr s c k v c' = s c' := by funext k'; simp [wr, h]
theorem wr_upd (s : St) (c k : Nat) (v : Int32) : wr s c k v c = upd (s c) k v := by funext k'; simp [wr, upd]
def imax (x y : Int32) : Int32 := if x < y then y else x
def irem (x y : Int32) : Int32 := x - x / y * y
section CWdefs
variable (cI cT cH : ClassId) (ad : Nat → Nat) (s : St)
def oF : List Value := [.ref (ad 1), .ref (ad 2), .ref (ad 3), .int (s 0 3), .int (s 0 4), .int (s 0 5), .int (s 0 6)]
def tF (c : Nat) : List Value := [.int (s c 0), .int (s c 1), .int (s c 2), .ref (ad (c + 1)), .int (s c 4), .int (s c 5), .int (s c 6), .int (s c 7), .int (s c 8), .int (s c 9)]
def hF (c : Nat) : List Value := [.int (s c 0), .int (s c 1), .int (s c 2), .int (s c 3)]
def bF : List Value := [.ref (ad 4), .int (s 3 1)]
/-- what cell j of the class's world holds -/
def cE (j : Nat) : va_E :=
  if j = 0 then .inr (0, oF ad s)
  else if j = 1 then .inl (cT, 8, .inr (.inr (.inr (.inr (fun i => some (ad (5 + 2 * i)))))))
  else if j = 2 then .inl (cH, 6, .inr (.inr (.inr (.inr (fun i => some (ad (21 + i)))))))
  else if j = 3 then .inr (3, bF ad s)
  else if j = 4 then .inl (cI, 40, .inl (s 4))
  else if 21 ≤ j then .inr (2, hF s j)
  else if j % 2 = 1 then .inr (1, tF ad s j)
  else .inl (cI, 6, .inl (s j))
def cw : va_W := (List.range 27).map (fun j => (ad j, cE cI cT cH ad s j))
end CWdefs
section CWrows
variable {cI cT cH : ClassId} {ad : Nat → Nat} {s s' : St}
theorem cw_at {j : Nat} (h : j < 27) : (cw cI cT cH ad s)[j]? = some (ad j, cE cI cT cH ad s j) := by
  simp [cw, h]
theorem cE_congr {j : Nat} (h : s' j = s j) : cE cI cT cH ad s' j = cE cI cT cH ad s j := by
  unfold cE
  by_cases h0 : j = 0
  · subst h0; simp [oF, h]
  · by_cases h3 : j = 3
    · subst h3; simp [bF, h]
    · by_cases h4 : j = 4
      · subst h4; simp [h]
      · simp [h0, h3, h4, hF, tF, h]
theorem cw_set {q : Nat} {e : va_E} (hq : q < 27) (h1 : cE cI cT cH ad s' q = e) (h2 : ∀ j, j ≠ q → s' j = s j) : (cw cI cT cH ad s).set q (ad q, e) = cw cI cT cH ad s' := by
  apply List.ext_getElem?
  intro j
  by_cases hj : j < 27
  · rw [cw_at (s := s') hj]
    by_cases e1 : j = q
    · subst e1
      rw [List.getElem?_set_self (by simpa [cw] using hq), h1]
    · rw [List.getElem?_set_ne (fun h => e1 h.symm), cw_at hj, cE_congr (h2 j e1)]
  · rw [List.getElem?_eq_none (by simpa [cw] using Nat.not_lt.mp hj), List.getElem?_eq_none (by simpa [cw] using Nat.not_lt.mp hj)]
theorem cE_k {j : Nat} (h : j < 8) : cE cI cT cH ad s (5 + 2 * j) = .inr (1, tF ad s (5 + 2 * j)) := by
  unfold cE
  rw [if_neg (by omega), if_neg (by omega), if_neg (by omega), if_neg (by omega), if_neg (by omega), if_neg (by omega), if_pos (by omega)]
theorem cE_l {j : Nat} (h : j < 8) : cE cI cT cH ad s (5 + 2 * j + 1) = .inl (cI, 6, .inl (s (5 + 2 * j + 1))) := by
  unfold cE
  rw [if_neg (by omega), if_neg (by omega), if_neg (by omega), if_neg (by omega), if_neg (by omega), if_neg (by omega), if_neg (by omega)]
theorem cE_h {k : Nat} (h : k < 6) : cE cI cT cH ad s (21 + k) = .inr (2, hF s (21 + k)) := by
  unfold cE
  rw [if_neg (by omega), if_neg (by omega), if_neg (by omega), if_neg (by omega), if_neg (by omega), if_pos (by omega)]
theorem cw_0 : (cw cI cT cH ad s)[0]? = some (ad 0, .inr (0, oF ad s)) := cw_at (by decide)
theorem cw_1 : (cw cI cT cH ad s)[1]? = some (ad 1, .inl (cT, 8, .inr (.inr (.inr (.inr (fun i => some (ad (5 + 2 * i)))))))) := cw_at (by decide)
theorem cw_2 : (cw cI cT cH ad s)[2]? = some (ad 2, .inl (cH, 6, .inr (.inr (.inr (.inr (fun i => some (ad (21 + i)))))))) := cw_at (by decide)
theorem cw_3 : (cw cI cT cH ad s)[3]? = some (ad 3, .inr (3, bF ad s)) := cw_at (by decide)
theorem cw_4 : (cw cI cT cH ad s)[4]? = some (ad 4, .inl (cI, 40, .inl (s 4))) := cw_at (by decide)
theorem cw_k {j : Nat} (h : j < 8) : (cw cI cT cH ad s)[5 + 2 * j]? = some (ad (5 + 2 * j), .inr (1, tF ad s (5 + 2 * j))) := by rw [cw_at (by omega), cE_k h]
theorem cw_l {j : Nat} (h : j < 8) : (cw cI cT cH ad s)[5 + 2 * j + 1]? = some (ad (5 + 2 * j + 1), .inl (cI, 6, .inl (s (5 + 2 * j + 1)))) := by rw [cw_at (by omega), cE_l h]
theorem cw_h {k : Nat} (h : k < 6) : (cw cI cT cH ad s)[21 + k]? = some (ad (21 + k), .inr (2, hF s (21 + k))) := by rw [cw_at (by omega), cE_h h]
-- writes of int slots
theorem cp_0 {k : Nat} (hk : k = 3 ∨ k = 4 ∨ k = 5 ∨ k = 6) (v : Int32) : (cw cI cT cH ad s).set 0 (ad 0, .inr (0, (oF ad s).set k (.int v))) = cw cI cT cH ad (wr s 0 k v) := by
  refine cw_set (by decide) ?_ (fun j h => wr_cell h)
  show Sum.inr (0, oF ad (wr s 0 k v)) = _
  rcases hk with rfl | rfl | rfl | rfl <;> simp [oF, wr]
theorem cp_3 (v : Int32) : (cw cI cT cH ad s).set 3 (ad 3, .inr (3, (bF ad s).set 1 (.int v))) = cw cI cT cH ad (wr s 3 1 v) := by
  refine cw_set (by decide) ?_ (fun j h => wr_cell h)
  show Sum.inr (3, bF ad (wr s 3 1 v)) = _
  simp [bF, wr]
theorem cp_4 (i : Nat) (v : Int32) : (cw cI cT cH ad s).set 4 (ad 4, .inl (cI, 40, .inl (upd (s 4) i v))) = cw cI cT cH ad (wr s 4 i v) := by
  refine cw_set (by decide) ?_ (fun j h => wr_cell h)
  show Sum.inl (cI, 40, Sum.inl (wr s 4 i v 4)) = _
  rw [wr_upd]
theorem cp_k {j k : Nat} (h : j < 8) (hk : k < 10) (h3 : k ≠ 3) (v : Int32) : (cw cI cT cH ad s).set (5 + 2 * j) (ad (5 + 2 * j), .inr (1, (tF ad s (5 + 2 * j)).set k (.int v))) = cw cI cT cH ad (wr s (5 + 2 * j) k v) := by
  refine cw_set (by omega) ?_ (fun j h => wr_cell h)
  rw [cE_k h]
  have hk : k = 0 ∨ k = 1 ∨ k = 2 ∨ k = 4 ∨ k = 5 ∨ k = 6 ∨ k = 7 ∨ k = 8 ∨ k = 9 := by omega
  rcases hk with rfl | rfl | rfl | rfl | rfl | rfl | rfl | rfl | rfl <;> simp [tF, wr]
theorem cp_l {j : Nat} (h : j < 8) (i : Nat) (v : Int32) : (cw cI cT cH ad s).set (5 + 2 * j + 1) (ad (5 + 2 * j + 1), .inl (cI, 6, .inl (upd (s (5 + 2 * j + 1)) i v))) = cw cI cT cH ad (wr s (5 + 2 * j + 1) i v) := by
  refine cw_set (by omega) ?_ (fun j h => wr_cell h)
  rw [cE_l h, wr_upd]
theorem cp_h {j k : Nat} (h : j < 6) (hk : k < 4) (v : Int32) : (cw cI cT cH ad s).set (21 + j) (ad (21 + j), .inr (2, (hF s (21 + j)).set k (.int v))) = cw cI cT cH ad (wr s (21 + j) k v) := by
  refine cw_set (by omega) ?_ (fun j h => wr_cell h)
  rw [cE_h h]
  have hk : k = 0 ∨ k = 1 ∨ k = 2 ∨ k = 3 := by omega
  rcases hk with rfl | rfl | rfl | rfl <;> simp [hF, wr]
end CWrows
section MWdefs
variable (cI : ClassId) (ad : Nat → Nat) (s : St)
def mF : List Value := [.int (s 0 0), .int (s 0 1), .int (s 0 2), .int (s 0 3), .ref (ad 1), .ref (ad 2), .ref (ad 3), .ref (ad 4), .ref (ad 5), .ref (ad 6), .ref (ad 7), .ref (ad 8), .ref (ad 9), .ref (ad 10), .ref (ad 11), .int (s 0 15), .int (s 0 16), .ref (ad 12)]
def mL (j : Nat) : Nat := match j with
  | 8 => 48
  | 9 => 6
  | 10 => 6
  | 11 => 6
  | 12 => 40
  | _ => 8
/-- what cell j of the reference's world holds -/
def mE (j : Nat) : va_E := if j = 0 then .inr (4, mF ad s) else .inl (cI, mL j, .inl (s j))
def mw : va_W := (List.range 13).map (fun j => (ad j, mE cI ad s j))
end MWdefs
section MWrows
variable {cI : ClassId} {ad : Nat → Nat} {s s' : St}
theorem mw_at {j : Nat} (h : j < 13) : (mw cI ad s)[j]? = some (ad j, mE cI ad s j) := by
  simp [mw, h]
theorem mE_congr {j : Nat} (h : s' j = s j) : mE cI ad s' j = mE cI ad s j := by
  unfold mE
  by_cases h0 : j = 0
  · subst h0; simp [mF, h]
  · simp [h0, h]
theorem mw_set {q : Nat} {e : va_E} (hq : q < 13) (h1 : mE cI ad s' q = e) (h2 : ∀ j, j ≠ q → s' j = s j) : (mw cI ad s).set q (ad q, e) = mw cI ad s' := by
  apply List.ext_getElem?
  intro j
  by_cases hj : j < 13
  · rw [mw_at (s := s') hj]
    by_cases e1 : j = q
    · subst e1
      rw [List.getElem?_set_self (by simpa [mw] using hq), h1]
    · rw [List.getElem?_set_ne (fun h => e1 h.symm), mw_at hj, mE_congr (h2 j e1)]
  · rw [List.getElem?_eq_none (by simpa [mw] using Nat.not_lt.mp hj), List.getElem?_eq_none (by simpa [mw] using Nat.not_lt.mp hj)]
theorem mw_0 : (mw cI ad s)[0]? = some (ad 0, .inr (4, mF ad s)) := mw_at (by decide)
theorem mw_1 : (mw cI ad s)[1]? = some (ad 1, .inl (cI, 8, .inl (s 1))) := mw_at (by decide)
theorem mw_2 : (mw cI ad s)[2]? = some (ad 2, .inl (cI, 8, .inl (s 2))) := mw_at (by decide)
theorem mw_3 : (mw cI ad s)[3]? = some (ad 3, .inl (cI, 8, .inl (s 3))) := mw_at (by decide)
theorem mw_4 : (mw cI ad s)[4]? = some (ad 4, .inl (cI, 8, .inl (s 4))) := mw_at (by decide)
theorem mw_5 : (mw cI ad s)[5]? = some (ad 5, .inl (cI, 8, .inl (s 5))) := mw_at (by decide)
theorem mw_6 : (mw cI ad s)[6]? = some (ad 6, .inl (cI, 8, .inl (s 6))) := mw_at (by decide)
theorem mw_7 : (mw cI ad s)[7]? = some (ad 7, .inl (cI, 8, .inl (s 7))) := mw_at (by decide)
theorem mw_8 : (mw cI ad s)[8]? = some (ad 8, .inl (cI, 48, .inl (s 8))) := mw_at (by decide)
theorem mw_9 : (mw cI ad s)[9]? = some (ad 9, .inl (cI, 6, .inl (s 9))) := mw_at (by decide)
theorem mw_10 : (mw cI ad s)[10]? = some (ad 10, .inl (cI, 6, .inl (s 10))) := mw_at (by decide)
theorem mw_11 : (mw cI ad s)[11]? = some (ad 11, .inl (cI, 6, .inl (s 11))) := mw_at (by decide)
theorem mw_12 : (mw cI ad s)[12]? = some (ad 12, .inl (cI, 40, .inl (s 12))) := mw_at (by decide)
theorem mp_0 {k : Nat} (hk : k = 0 ∨ k = 1 ∨ k = 2 ∨ k = 3 ∨ k = 15 ∨ k = 16) (v : Int32) : (mw cI ad s).set 0 (ad 0, .inr (4, (mF ad s).set k (.int v))) = mw cI ad (wr s 0 k v) := by
  refine mw_set (by decide) ?_ (fun j h => wr_cell h)
  show Sum.inr (4, mF ad (wr s 0 k v)) = _
  rcases hk with rfl | rfl | rfl | rfl | rfl | rfl <;> simp [mF, wr]
theorem mp_a {j : Nat} (h0 : j ≠ 0) (hj : j < 13) (i : Nat) (v : Int32) : (mw cI ad s).set j (ad j, .inl (cI, mL j, .inl (upd (s j) i v))) = mw cI ad (wr s j i v) := by
  refine mw_set hj ?_ (fun j h => wr_cell h)
  unfold mE
  rw [if_neg h0, wr_upd]
theorem mp_1 {i : Nat} {v : Int32} : (mw cI ad s).set 1 (ad 1, .inl (cI, 8, .inl (upd (s 1) i v))) = mw cI ad (wr s 1 i v) := mp_a (by decide) (by decide) i v
theorem mp_2 {i : Nat} {v : Int32} : (mw cI ad s).set 2 (ad 2, .inl (cI, 8, .inl (upd (s 2) i v))) = mw cI ad (wr s 2 i v) := mp_a (by decide) (by decide) i v
theorem mp_3 {i : Nat} {v : Int32} : (mw cI ad s).set 3 (ad 3, .inl (cI, 8, .inl (upd (s 3) i v))) = mw cI ad (wr s 3 i v) := mp_a (by decide) (by decide) i v
theorem mp_4 {i : Nat} {v : Int32} : (mw cI ad s).set 4 (ad 4, .inl (cI, 8, .inl (upd (s 4) i v))) = mw cI ad (wr s 4 i v) := mp_a (by decide) (by decide) i v
theorem mp_5 {i : Nat} {v : Int32} : (mw cI ad s).set 5 (ad 5, .inl (cI, 8, .inl (upd (s 5) i v))) = mw cI ad (wr s 5 i v) := mp_a (by decide) (by decide) i v
theorem mp_6 {i : Nat} {v : Int32} : (mw cI ad s).set 6 (ad 6, .inl (cI, 8, .inl (upd (s 6) i v))) = mw cI ad (wr s 6 i v) := mp_a (by decide) (by decide) i v
theorem mp_7 {i : Nat} {v : Int32} : (mw cI ad s).set 7 (ad 7, .inl (cI, 8, .inl (upd (s 7) i v))) = mw cI ad (wr s 7 i v) := mp_a (by decide) (by decide) i v
theorem mp_8 {i : Nat} {v : Int32} : (mw cI ad s).set 8 (ad 8, .inl (cI, 48, .inl (upd (s 8) i v))) = mw cI ad (wr s 8 i v) := mp_a (by decide) (by decide) i v
theorem mp_9 {i : Nat} {v : Int32} : (mw cI ad s).set 9 (ad 9, .inl (cI, 6, .inl (upd (s 9) i v))) = mw cI ad (wr s 9 i v) := mp_a (by decide) (by decide) i v
theorem mp_10 {i : Nat} {v : Int32} : (mw cI ad s).set 10 (ad 10, .inl (cI, 6, .inl (upd (s 10) i v))) = mw cI ad (wr s 10 i v) := mp_a (by decide) (by decide) i v
theorem mp_11 {i : Nat} {v : Int32} : (mw cI ad s).set 11 (ad 11, .inl (cI, 6, .inl (upd (s 11) i v))) = mw cI ad (wr s 11 i v) := mp_a (by decide) (by decide) i v
theorem mp_12 {i : Nat} {v : Int32} : (mw cI ad s).set 12 (ad 12, .inl (cI, 40, .inl (upd (s 12) i v))) = mw cI ad (wr s 12 i v) := mp_a (by decide) (by decide) i v
end MWrows
def inA (ad : Nat → Nat) (n : Nat) : Nat → Prop := fun q => ∃ j, j < n ∧ q = ad j
theorem cw_D {cI cT cH : ClassId} {ad : Nat → Nat} {s : St} (hI : ∀ i j, i < 27 → j < 27 → ad i = ad j → i = j) : va_D (inA ad 27) (cw cI cT cH ad s) := by
  have hb : ∀ (k : Nat) (q : Nat × va_E), (cw cI cT cH ad s)[k]? = some q → k < 27 ∧ q.1 = ad k := by
    intro k q hk
    by_cases h : k < 27
    · rw [cw_at h] at hk
      obtain rfl := Option.some.inj hk
      exact ⟨h, rfl⟩
    · rw [List.getElem?_eq_none (by simpa [cw] using Nat.not_lt.mp h)] at hk
      cases hk
  refine ⟨fun i j p q h1 h2 h => ?_, fun k q hk => ⟨k, (hb k q hk).1, (hb k q hk).2⟩⟩
  obtain ⟨a1, a2⟩ := hb i p h1
  obtain ⟨b1, b2⟩ := hb j q h2
  exact hI i j a1 b1 (by rw [← a2, ← b2]; exact h)
theorem mw_D {cI : ClassId} {ad : Nat → Nat} {s : St} (hI : ∀ i j, i < 13 → j < 13 → ad i = ad j → i = j) : va_D (inA ad 13) (mw cI ad s) := by
  have hb : ∀ (k : Nat) (q : Nat × va_E), (mw cI ad s)[k]? = some q → k < 13 ∧ q.1 = ad k := by
    intro k q hk
    by_cases h : k < 13
    · rw [mw_at h] at hk
      obtain rfl := Option.some.inj hk
      exact ⟨h, rfl⟩
    · rw [List.getElem?_eq_none (by simpa [mw] using Nat.not_lt.mp h)] at hk
      cases hk
  refine ⟨fun i j p q h1 h2 h => ?_, fun k q hk => ⟨k, (hb k q hk).1, (hb k q hk).2⟩⟩
  obtain ⟨a1, a2⟩ := hb i p h1
  obtain ⟨b1, b2⟩ := hb j q h2
  exact hI i j a1 b1 (by rw [← a2, ← b2]; exact h)
-- what a state's tables and heap hold for a class method
abbrev ty9 (cI cT cH : ClassId) : List (ClassId × FieldType) := [(cI, .int), (cT, .object R_T), (cH, .object R_H)]
def nwA (U : State) : Prop := ∀ w ∈ nw9, va_Nw w U
theorem nw9_kind : ∀ w ∈ nw9, (∃ a i b n d h, w = Cond.fieldLinkNest a i b n d h) ∨ ∃ a i x h, w = Cond.methodLinkNest a i x h := by
  intro w hw
  simp only [nw9, List.mem_cons, List.not_mem_nil, or_false] at hw
  rcases hw with rfl | rfl | rfl | rfl | rfl | rfl | rfl | rfl | rfl | rfl | rfl | rfl | rfl | rfl | rfl | rfl | rfl <;> first | exact Or.inl ⟨_, _, _, _, _, _, rfl⟩ | exact Or.inr ⟨_, _, _, _, rfl⟩
theorem nwA.warm {s U : State} (hW : s.WarmedH U.vm) (h : nwA s) : nwA U := fun w hw => by
  rcases nw9_kind w hw with ⟨a, i, b, n, d, k, rfl⟩ | ⟨a, i, x, k, rfl⟩
  · exact va_Nw.warmF hW (h _ hw)
  · exact va_Nw.warmM hW (h _ hw)
theorem nwA.same {u U : State} (e : u.vm = U.vm) (h : nwA u) : nwA U := fun w hw => by
  rcases nw9_kind w hw with ⟨a, i, b, n, d, k, rfl⟩ | ⟨a, i, x, k, rfl⟩
  · exact va_Nw.same rfl e (h _ hw)
  · exact va_Nw.same rfl e (h _ hw)
def gW (D : va_G) (cI cT cH : ClassId) (ws : va_W) (U : State) : Prop := va_P D cls9 ws U.heap ∧ va_K D cls9 (ty9 cI cT cH) U ∧ nwA U
theorem gW_blind {D : va_G} {cI cT cH : ClassId} {ws : va_W} {av : List Value} : FrameBlind (va_Pc av (gW D cI cT cH ws)) := fun a U g mk q => by
  obtain ⟨q0, qP, qK, qN⟩ := q
  exact ⟨q0, qP, va_K.moved (u := U) (U := U.calling g mk a) (Vm.Alike.refl U.vm) qK, nwA.same (u := U) rfl qN⟩
theorem gW_pre {D : va_G} {cI cT cH : ClassId} {ws : va_W} {av : List Value} {s : State} {H : Heap} (hP : va_P D cls9 ws H) (hK : va_K D cls9 (ty9 cI cT cH) s) (hN : nwA s) : ∀ U : State, U.heap = H → s.WarmedH U.vm → va_Pc av (gW D cI cT cH ws) av.toArray U :=
  fun U hU hW => ⟨rfl, by rw [hU]; exact hP, va_K.moved hW.alike hK, hN.warm hW⟩
theorem gW_end {D : va_G} {cI cT cH : ClassId} {ws : va_W} {s t : State} {H : Heap} (hP : va_P D cls9 ws H) (hK : va_K D cls9 (ty9 cI cT cH) s) (hN : nwA s) (ht : t.heap = H) (hW : s.WarmedH t.vm) : gW D cI cT cH ws t :=
  ⟨by rw [ht]; exact hP, va_K.moved hW.alike hK, hN.warm hW⟩
abbrev qV (D : va_G) (ws : va_W) (A : Nat → Prop) : Array Value → State → Outcome → State → Prop := va_Qv (S := Unit) (fun _ => True) (fun _ t => va_P D cls9 ws t.heap) A
abbrev qI (D : va_G) (r0 : Int32) (ws : va_W) (A : Nat → Prop) : Array Value → State → Outcome → State → Prop := va_Qi (S := Unit) (fun r _ => r = r0) (fun _ t => va_P D cls9 ws t.heap) A
abbrev qXV (D : va_G) (f : Nat × Int32 × St) (wf : St → va_W) (A : Nat → Prop) : Array Value → State → Outcome → State → Prop := va_Qv (S := Unit) (fun _ => f.1 = 0) (fun _ t => va_P D cls9 (wf f.2.2) t.heap) A
abbrev qXI (D : va_G) (f : Nat × Int32 × St) (wf : St → va_W) (A : Nat → Prop) : Array Value → State → Outcome → State → Prop := va_Qi (S := Unit) (fun r _ => f.1 = 0 ∧ r = f.2.1) (fun _ t => va_P D cls9 (wf f.2.2) t.heap) A
abbrev eS : String := "java/lang/IllegalStateException"
abbrev eA : String := "java/lang/IllegalArgumentException"
abbrev qX (D : va_G) (f : Nat × Int32 × St) (ws : va_W) (A : Nat → Prop) : String → State → State → Prop := vx_X (S := Unit) (fun _ => True) (fun E _ t => ((f.1 = 1 ∧ E = eS) ∨ (f.1 = 2 ∧ E = eA)) ∧ va_P D cls9 ws t.heap) A
def xR (U : State) : Prop := ∀ q ∈ xS9, ∃ a, vk_R R_C q.1 q.2 a U
def xW (D : va_G) (cI cT cH : ClassId) (ws : va_W) (A : Nat → Prop) (U : State) : Prop := gW D cI cT cH ws U ∧ vx_Zq Bundle.tN "UNASSIGNED_STACK" Bundle.steD A U U.heap ∧ vx_Zq Bundle.tN "SUPPRESSED_SENTINEL" Bundle.listD A U U.heap ∧ xR U ∧ ∀ w ∈ xT9, va_Nw w U
-- the words of a call, all out of TT
theorem gV {own C : String} {i n : Nat} {y : MethodName} {b : ByteArray} {ret : Option FieldType} (h1 : Cond.methodLink own i y ∈ TT) (h2 : Cond.instanceMethod y ∈ TT) (h3 : Cond.selects C y y ∈ TT) (h4 : Cond.initialized C ∈ TT) (h5 : Cond.code y b n ret ∈ TT) : GoodIn TT (wsV own i C y (Cond.code y b n ret :: TT)) := by
  have g : ∀ w, w ∈ TT → w ∈ TT ∧ ((w.onTables && w.keeps) = true ∨ ∃ ty, w = .arrayClass ty) := fun w h => ⟨h, good_of_word (tt_good w h)⟩
  intro w hw
  simp only [wsV, List.cons_append, List.nil_append, List.mem_cons] at hw
  rcases hw with rfl | rfl | rfl | rfl | rfl | hw
  · exact g _ h1
  · exact g _ h2
  · exact g _ h3
  · exact g _ h4
  · exact g _ h5
  · exact g _ hw
section RD
variable {p : Program} {l : Launch} {e : Env} {R : Room} {s : State} {m : MethodId} {args : Array Value} {below : List Frame} {meth : Method} {c : Code} {H : Heap} {locs : List Loc} {cells slots : Nat} {Q : State → Prop}
variable {cc b : ByteArray} {nL n i na pc fr lo : Nat} {own C : String} {y : MethodName} {ret : Option FieldType} {ls : Array Slot} {rest st0 As : List Value} {r : Int32} {a : Nat}
variable {D : va_G} {cI cT cH : ClassId} {ws ws1 : va_W} {A : Nat → Prop} {H0 : Heap}
/-- a method that only reads -/
theorem rdV (hM : Met l y (Cond.code y b n ret :: TT) { frames := fr, cells := 0, slots := 0, locals := lo } (va_Pc (.ref a :: As) (gW D cI cT cH ws)) (QcRead r) 0 0 (fun _ => False)) (S : CallFix p m c cc nL s args TT own)
    (h1 : Cond.methodLink own i y ∈ TT) (h2 : Cond.instanceMethod y ∈ TT) (h3 : Cond.selects C y y ∈ TT) (h4 : Cond.initialized C ∈ TT) (h5 : Cond.code y b n ret ∈ TT)
    (hd : y.cls = C ∧ y.cls ≠ "java/lang/invoke/MethodHandle" ∧ y.cls ≠ "java/lang/invoke/VarHandle" ∧ (parseMethodDescriptor y.desc).map (fun d => d.parameters.length) = some na) (hR : fr + 1 ≤ R.frames ∧ 8 + (n + 11) + lo ≤ R.locals) (hf : cells + 0 ≤ R.cells ∧ slots + 0 ≤ R.slots)
    (hP : va_P D cls9 ws H) (hK : va_K D cls9 (ty9 cI cT cH) s) (hN : nwA s) {q0 ci : Nat} {fs : List Value} {T : u_T} {N : Nat} (he : ws[q0]? = some (a, .inr (ci, fs))) (hc : cls9[ci]? = some (C, T, N))
    (hn : As.length = na) (hsize : ls.size = nL) (hst : st0 = As.reverse ++ .ref a :: rest) (hroom : (rest.map fun v => v.category).sum ≤ 8) (hdg : decode cc pc = .ok (.invokevirtual i, 3))
    (kk : W p l e R s m args below meth c H locs cells slots Q (F0 m (pc + 3) ls (.int r :: rest))) : W p l e R s m args below meth c H locs cells slots Q (F0 m pc ls st0) := by
  obtain ⟨-, -, -, -, hts⟩ := id S
  exact W.callR (W.runV S hM (cwV na hts (gV h1 h2 h3 h4 h5) rfl rfl rfl hd hR) ⟨gW_blind, va_recv hK hP hc he, gW_pre hP hK hN⟩ (g := F0 m pc ls st0) rfl hn hsize hst (lv_room hroom) hdg hf) kk
/-- a static method that only computes -/
theorem rdS (hM : Met l y (Cond.code y b n ret :: TT) { frames := fr, cells := 0, slots := 0, locals := lo } (va_Pc As (fun _ => True)) (QcRead r) 0 0 (fun _ => False)) (S : CallFix p m c cc nL s args TT own)
    (h1 : Cond.methodLink own i y ∈ TT) (h2 : Cond.static y ∈ TT) (h4 : Cond.initialized y.cls ∈ TT) (h5 : Cond.code y b n ret ∈ TT)
    (hd : y.cls ≠ "java/lang/invoke/MethodHandle" ∧ y.cls ≠ "java/lang/invoke/VarHandle" ∧ (parseMethodDescriptor y.desc).map (fun d => d.parameters.length) = some na) (hR : fr + 1 ≤ R.frames ∧ 8 + (n + 11) + lo ≤ R.locals) (hf : cells + 0 ≤ R.cells ∧ slots + 0 ≤ R.slots)
    (hn : As.length = na) (hsize : ls.size = nL) (hst : st0 = As.reverse ++ rest) (hroom : (rest.map fun v => v.category).sum ≤ 8) (hdg : decode cc pc = .ok (.invokestatic i, 3))
    (kk : W p l e R s m args below meth c H locs cells slots Q (F0 m (pc + 3) ls (.int r :: rest))) : W p l e R s m args below meth c H locs cells slots Q (F0 m pc ls st0) := by
  obtain ⟨-, -, -, -, hts⟩ := id S
  have hG : GoodIn TT (Cond.code y b n ret :: TT) := by
    intro w hw
    rcases List.mem_cons.mp hw with rfl | hw
    · exact ⟨h5, good_of_word (tt_good _ h5)⟩
    · exact ⟨hw, good_of_word (tt_good _ hw)⟩
  exact W.callR (W.runS S hM ⟨callB_of na hts hG rfl rfl rfl (hts _ h4) (hts _ h1) hd hR, hts _ h2⟩ ⟨fun _ _ _ _ q => ⟨q.1, trivial⟩, fun _ _ _ => ⟨rfl, trivial⟩⟩ (g := F0 m pc ls st0) rfl hn hsize hst (lv_room hroom) hdg hf) kk
/-- a method without an answer that changes the world -/
theorem wcV (hM : Met l y (Cond.code y b n ret :: TT) { frames := fr, cells := 0, slots := 0, locals := lo } (va_Pc (.ref a :: As) (gW D cI cT cH ws)) (qV D ws1 A) 0 0 A) (S : CallFix p m c cc nL s args TT own)
    (h1 : Cond.methodLink own i y ∈ TT) (h2 : Cond.instanceMethod y ∈ TT) (h3 : Cond.selects C y y ∈ TT) (h4 : Cond.initialized C ∈ TT) (h5 : Cond.code y b n ret ∈ TT)
    (hd : y.cls = C ∧ y.cls ≠ "java/lang/invoke/MethodHandle" ∧ y.cls ≠ "java/lang/invoke/VarHandle" ∧ (parseMethodDescriptor y.desc).map (fun d => d.parameters.length) = some na) (hR : fr + 1 ≤ R.frames ∧ 8 + (n + 11) + lo ≤ R.locals) (hf : cells + 0 ≤ R.cells ∧ slots + 0 ≤ R.slots)
    (hP : va_P D cls9 ws H) (hK : va_K D cls9 (ty9 cI cT cH) s) (hN : nwA s) {q0 ci : Nat} {fs : List Value} {T : u_T} {N : Nat} (he : ws[q0]? = some (a, .inr (ci, fs))) (hc : cls9[ci]? = some (C, T, N)) (hS : va_S A H0 H locs)
    (hn : As.length = na) (hsize : ls.size = nL) (hst : st0 = As.reverse ++ .ref a :: rest) (hroom : (rest.map fun v => v.category).sum ≤ 8) (hdg : decode cc pc = .ok (.invokevirtual i, 3))
    (kk : ∀ (H1 : Heap) (locs1 : List Loc), va_P D cls9 ws1 H1 → va_S A H0 H1 locs1 → W p l e R s m args below meth c H1 locs1 cells slots Q (F0 m (pc + 3) ls rest)) : W p l e R s m args below meth c H locs cells slots Q (F0 m pc ls st0) := by
  obtain ⟨-, -, -, -, hts⟩ := id S
  exact va_callv (va_runV S hM (cwV na hts (gV h1 h2 h3 h4 h5) rfl rfl rfl hd hR) ⟨gW_blind, va_recv hK hP hc he, gW_pre hP hK hN⟩ (g := F0 m pc ls st0) rfl hn hsize hst (lv_room hroom) hdg hf) hS (fun _ _ h => h) (fun _ h => h)
    (fun u t H1 locs1 ht _ _ hB _ _ hS1 => kk H1 locs1 (by rw [← ht]; exact hB) hS1)
/-- a method with an answer that changes the world -/
theorem wcI {r0 : Int32} (hM : Met l y (Cond.code y b n ret :: TT) { frames := fr, cells := 0, slots := 0, locals := lo } (va_Pc (.ref a :: As) (gW D cI cT cH ws)) (qI D r0 ws1 A) 0 0 A) (S : CallFix p m c cc nL s args TT own)
    (h1 : Cond.methodLink own i y ∈ TT) (h2 : Cond.instanceMethod y ∈ TT) (h3 : Cond.selects C y y ∈ TT) (h4 : Cond.initialized C ∈ TT) (h5 : Cond.code y b n ret ∈ TT)
    (hd : y.cls = C ∧ y.cls ≠ "java/lang/invoke/MethodHandle" ∧ y.cls ≠ "java/lang/invoke/VarHandle" ∧ (parseMethodDescriptor y.desc).map (fun d => d.parameters.length) = some na) (hR : fr + 1 ≤ R.frames ∧ 8 + (n + 11) + lo ≤ R.locals) (hf : cells + 0 ≤ R.cells ∧ slots + 0 ≤ R.slots)
    (hP : va_P D cls9 ws H) (hK : va_K D cls9 (ty9 cI cT cH) s) (hN : nwA s) {q0 ci : Nat} {fs : List Value} {T : u_T} {N : Nat} (he : ws[q0]? = some (a, .inr (ci, fs))) (hc : cls9[ci]? = some (C, T, N)) (hS : va_S A H0 H locs)
    (hn : As.length = na) (hsize : ls.size = nL) (hst : st0 = As.reverse ++ .ref a :: rest) (hroom : (rest.map fun v => v.category).sum ≤ 8) (hdg : decode cc pc = .ok (.invokevirtual i, 3))
    (kk : ∀ (H1 : Heap) (locs1 : List Loc), va_P D cls9 ws1 H1 → va_S A H0 H1 locs1 → W p l e R s m args below meth c H1 locs1 cells slots Q (F0 m (pc + 3) ls (.int r0 :: rest))) : W p l e R s m args below meth c H locs cells slots Q (F0 m pc ls st0) := by
  obtain ⟨-, -, -, -, hts⟩ := id S
  exact va_calli (va_runV S hM (cwV na hts (gV h1 h2 h3 h4 h5) rfl rfl rfl hd hR) ⟨gW_blind, va_recv hK hP hc he, gW_pre hP hK hN⟩ (g := F0 m pc ls st0) rfl hn hsize hst (lv_room hroom) hdg hf) hS (fun _ _ h => h) (fun _ h => h)
    (fun r u t H1 locs1 ht _ hr hB _ _ hS1 => by subst hr; exact kk H1 locs1 (by rw [← ht]; exact hB) hS1)
end RD
-- places in range
theorem vi_lt {x : Int32} {n : Nat} (h : vp_in x n) : x.toNatClampNeg < n := Nat.lt_of_not_le fun q => h (Or.inr q)
