-- what each method does, as functions of the state (printed by wip/gen/sym.py)
def f_J_floorMod (p0 : Int32) (p1 : Int32) : Int32 := if 0 ≤ (p0 ^^^ p1) then (irem p0 p1)
  else if (irem p0 p1) = 0 then (irem p0 p1)
  else ((irem p0 p1) + p1)
def f_C_isIn (p0 : Int32) (p1 : Int32) (p2 : Int32) : Int32 := if p0 < p1 then 0
  else if p2 < p0 then 0
  else 1
def f_C_isThing (p0 : Int32) : Int32 := (f_C_isIn p0 0 5)
def f_T_isDeclared (s : St) (j0 : Nat) : Int32 := if (s (5 + 2 * j0) 2) ≤ 0 then 0
  else 1
def f_T_isUserOf (s : St) (j0 : Nat) (p1 : Int32) : Int32 := if (s (5 + 2 * j0 + 1) p1.toNatClampNeg) ≤ 0 then 0
  else 1
def f_T_makeReady_S23 (s : St) (v0 : Nat) : St := wr s (5 + 2 * v0) 9 0
def f_T_makeReady_S18 (s : St) (v0 : Nat) : St := f_T_makeReady_S23 (wr s (5 + 2 * v0) 8 0) v0
def f_T_makeReady_S13 (s : St) (v0 : Nat) (v1 : Int32) : St := f_T_makeReady_S18 (wr s (5 + 2 * v0) 6 v1) v0
def f_T_makeReady_S5 (s : St) (v0 : Nat) (v1 : Int32) : St := f_T_makeReady_S13 (wr s (5 + 2 * v0) 5 (s (5 + 2 * v0) 0)) v0 v1
def f_T_makeReady (s : St) (j0 : Nat) (p1 : Int32) : St := f_T_makeReady_S5 (wr s (5 + 2 * j0) 4 1) j0 p1
def f_T_goesBefore (s : St) (j0 : Nat) (j1 : Nat) : Int32 := if (s (5 + 2 * j1) 5) < (s (5 + 2 * j0) 5) then 1
  else if (s (5 + 2 * j0) 5) = (s (5 + 2 * j1) 5) then (if (s (5 + 2 * j1) 6) ≤ (s (5 + 2 * j0) 6) then 0
    else 1)
  else 0
def f_T_demandIn (s : St) (j0 : Nat) (p1 : Int32) : Int32 := if (f_T_isDeclared s j0) = 0 then 0
  else ((s (5 + 2 * j0) 1) * (((p1 + (s (5 + 2 * j0) 2)) - 1) / (s (5 + 2 * j0) 2)))
def f_N_write_S38 (s : St) : St := wr s 3 1 ((s 3 1) + 1)
def f_N_write (s : St) (p1 : Int32) (p2 : Int32) (p3 : Int32) (p4 : Int32) : St := f_N_write_S38 (wr s 4 (f_J_floorMod (s 3 1) 40).toNatClampNeg ((((4096 * (f_J_floorMod p4 65536)) + (256 * p3)) + (16 * p2)) + p1))
def f_N_fromLatest (s : St) (p1 : Int32) : Int32 := if p1 < 0 then (-1)
  else if 40 ≤ p1 then (-1)
  else if p1 < (s 3 1) then (s 4 (f_J_floorMod (((s 3 1) - 1) - p1) 40).toNatClampNeg)
  else (-1)
def f_C_isDeclared (s : St) (p1 : Int32) : Int32 := if (f_C_isIn p1 0 7) = 0 then 0
  else if (f_T_isDeclared s p1.toNatClampNeg) = 0 then 0
  else 1
def f_C_isReady (s : St) (p1 : Int32) : Int32 := if (f_C_isIn p1 0 7) = 0 then 0
  else if (s (5 + 2 * p1.toNatClampNeg) 4) = 0 then 0
  else 1
def f_C_isHeld (s : St) (p1 : Int32) : Int32 := if (f_C_isThing p1) = 0 then 0
  else if (s (21 + p1.toNatClampNeg) 1) = (-1) then 0
  else 1
def f_C_countDeclared_L4 : Nat → Nat → St → Int32 → Int32
  | 0, i, s, v1 => v1
  | n + 1, i, s, v1 => if (f_T_isDeclared s i) = 0 then f_C_countDeclared_L4 n (i + 1) s v1
      else f_C_countDeclared_L4 n (i + 1) s (v1 + 1)
def f_C_countDeclared (s : St) : Int32 := f_C_countDeclared_L4 8 0 s 0
def f_C_greatestBaseOfUsers_L4 : Nat → Nat → St → Int32 → Int32 → Int32
  | 0, i, s, v1, v2 => v2
  | n + 1, i, s, v1, v2 => if (f_T_isUserOf s i v1) = 0 then f_C_greatestBaseOfUsers_L4 n (i + 1) s v1 v2
      else f_C_greatestBaseOfUsers_L4 n (i + 1) s v1 (imax v2 (s (5 + 2 * i) 0))
def f_C_greatestBaseOfUsers (s : St) (p1 : Int32) : Int32 := f_C_greatestBaseOfUsers_L4 8 0 s p1 0
def f_C_mostUrgent_L4 : Nat → Nat → St → Int32 → Int32
  | 0, i, s, v1 => v1
  | n + 1, i, s, v1 => if (s (5 + 2 * i) 4) = 0 then f_C_mostUrgent_L4 n (i + 1) s v1
      else if v1 = (-1) then f_C_mostUrgent_L4 n (i + 1) s (nI i)
      else if (f_T_goesBefore s i v1.toNatClampNeg) = 0 then f_C_mostUrgent_L4 n (i + 1) s v1
      else f_C_mostUrgent_L4 n (i + 1) s (nI i)
def f_C_mostUrgent (s : St) : Int32 := f_C_mostUrgent_L4 8 0 s (-1)
def f_C_happened_B53 (s : St) (x1 : Int32) (x2 : Int32) : St := f_N_write s x1 x2 15 (s 0 4)
def f_C_happened_S35 (s : St) (v4 : Int32) : St := if v4 = (-1) then f_C_happened_B53 s 5 8
  else f_C_happened_B53 s 5 v4
def f_C_happened_S14 (s : St) : St := if (f_C_mostUrgent s) = (s 0 6) then s
  else f_C_happened_S35 (wr s 0 6 (f_C_mostUrgent s)) (f_C_mostUrgent s)
def f_C_happened (s : St) (p1 : Int32) (p2 : Int32) (p3 : Int32) : St := f_C_happened_S14 (f_N_write s p1 p2 p3 (s 0 4))
def f_C_delayMoreUrgentThan_L2 : Nat → Nat → St → Int32 → Int32 → St
  | 0, i, s, v1, v2 => s
  | n + 1, i, s, v1, v2 => if (s (5 + 2 * i) 4) = 0 then f_C_delayMoreUrgentThan_L2 n (i + 1) s v1 v2
      else if (s (5 + 2 * i) 0) ≤ v1 then f_C_delayMoreUrgentThan_L2 n (i + 1) s v1 v2
      else f_C_delayMoreUrgentThan_L2 n (i + 1) (wr s (5 + 2 * i) 9 ((s (5 + 2 * i) 9) + v2)) v1 v2
def f_C_delayMoreUrgentThan (s : St) (p1 : Int32) (p2 : Int32) : St := f_C_delayMoreUrgentThan_L2 8 0 s p1 p2
def f_C_longestUseOfCeiling_L5 : Nat → Nat → St → Nat → Int32 → Int32 → Int32
  | 0, i, s, v1, v2, v3 => v3
  | n + 1, i, s, v1, v2, v3 => if (s (21 + i) 0) < v2 then f_C_longestUseOfCeiling_L5 n (i + 1) s v1 v2 v3
      else f_C_longestUseOfCeiling_L5 n (i + 1) s v1 v2 (imax v3 (s (5 + 2 * v1 + 1) i))
def f_C_longestUseOfCeiling (s : St) (j1 : Nat) (p2 : Int32) : Int32 := f_C_longestUseOfCeiling_L5 6 0 s j1 p2 0
def f_C_longestBlockingAt_L4 : Nat → Nat → St → Int32 → Int32 → Int32
  | 0, i, s, v1, v2 => v2
  | n + 1, i, s, v1, v2 => if v1 ≤ (s (5 + 2 * i) 0) then f_C_longestBlockingAt_L4 n (i + 1) s v1 v2
      else f_C_longestBlockingAt_L4 n (i + 1) s v1 (imax v2 (f_C_longestUseOfCeiling s i v1))
def f_C_longestBlockingAt (s : St) (p1 : Int32) : Int32 := f_C_longestBlockingAt_L4 8 0 s p1 0
def f_C_demandOfOthers_L5 : Nat → Nat → St → Int32 → Int32 → Int32 → Int32
  | 0, i, s, v1, v2, v3 => v3
  | n + 1, i, s, v1, v2, v3 => if (nI i) = v1 then f_C_demandOfOthers_L5 n (i + 1) s v1 v2 v3
      else if (s (5 + 2 * i) 0) < (s (5 + 2 * v1.toNatClampNeg) 0) then f_C_demandOfOthers_L5 n (i + 1) s v1 v2 v3
      else f_C_demandOfOthers_L5 n (i + 1) s v1 v2 (v3 + (f_T_demandIn s i v2))
def f_C_demandOfOthers (s : St) (p1 : Int32) (p2 : Int32) : Int32 := f_C_demandOfOthers_L5 8 0 s p1 p2 0
def f_C_declare_S97 (s : St) (v4 : Int32) (v5 : Nat) : Nat × Int32 × St := (0, 0, wr s (5 + 2 * v5) 2 v4)
def f_C_declare_S91 (s : St) (v3 : Int32) (v4 : Int32) (v5 : Nat) : Nat × Int32 × St := f_C_declare_S97 (wr s (5 + 2 * v5) 1 v3) v4 v5
def f_C_declare (s : St) (p1 : Int32) (p2 : Int32) (p3 : Int32) (p4 : Int32) : Nat × Int32 × St := if (s 0 3) = 0 then (if (f_C_isDeclared s p1) = 0 then (if (f_C_isIn p1 0 7) = 0 then (2, 0, s)
      else if (f_C_isIn p2 1 16) = 0 then (2, 0, s)
      else if (f_C_isIn p3 1 50) = 0 then (2, 0, s)
      else if (f_C_isIn p4 1 200) = 0 then (2, 0, s)
      else f_C_declare_S91 (wr s (5 + 2 * p1.toNatClampNeg) 0 p2) p3 p4 p1.toNatClampNeg)
    else (1, 0, s))
  else (1, 0, s)
def f_C_mayUse (s : St) (p1 : Int32) (p2 : Int32) (p3 : Int32) : Nat × Int32 × St := if (s 0 3) = 0 then (if (f_C_isDeclared s p1) = 0 then (2, 0, s)
    else if (f_C_isThing p2) = 0 then (2, 0, s)
    else if (f_C_isIn p3 1 50) = 0 then (2, 0, s)
    else (0, 0, wr s (5 + 2 * p1.toNatClampNeg + 1) p2.toNatClampNeg p3))
  else (1, 0, s)
def f_C_seal_L24 : Nat → Nat → St → Nat × Int32 × St
  | 0, i, s => (0, (f_C_countDeclared s), s)
  | n + 1, i, s => f_C_seal_L24 n (i + 1) (wr s (21 + i) 0 (f_C_greatestBaseOfUsers s (nI i)))
def f_C_seal_S22 (s : St) : Nat × Int32 × St := f_C_seal_L24 6 0 s
def f_C_seal (s : St) : Nat × Int32 × St := if (s 0 3) = 0 then f_C_seal_S22 (wr s 0 3 1)
  else (1, 0, s)
def f_C_release_S74 (s : St) : Nat × Int32 × St := (0, (s 0 5), s)
def f_C_release_S66 (s : St) (v1 : Int32) : Nat × Int32 × St := f_C_release_S74 (f_C_happened s 1 v1 15)
def f_C_release_S53 (s : St) (v1 : Int32) : Nat × Int32 × St := f_C_release_S66 (f_T_makeReady s v1.toNatClampNeg (s 0 5)) v1
def f_C_release (s : St) (p1 : Int32) : Nat × Int32 × St := if (s 0 3) = 0 then (1, 0, s)
  else if (f_C_isReady s p1) = 0 then (if (f_C_isDeclared s p1) = 0 then (2, 0, s)
    else f_C_release_S53 (wr s 0 5 ((s 0 5) + 1)) p1)
  else (1, 0, s)
def f_C_take_S137 (s : St) (v2 : Nat) : Nat × Int32 × St := (0, (s (5 + 2 * v2) 5), s)
def f_C_take_S127 (s : St) (v1 : Int32) (v2 : Nat) : Nat × Int32 × St := f_C_take_S137 (f_C_happened s 2 (s 0 6) v1) v2
def f_C_take_S112 (s : St) (v1 : Int32) (v2 : Nat) (v3 : Nat) : Nat × Int32 × St := f_C_take_S127 (wr s (5 + 2 * v2) 5 (imax (s (5 + 2 * v2) 5) (s (21 + v3) 0))) v1 v2
def f_C_take_S107 (s : St) (v1 : Int32) (v2 : Nat) (v3 : Nat) : Nat × Int32 × St := f_C_take_S112 (wr s (5 + 2 * v2) 7 v1) v1 v2 v3
def f_C_take_S99 (s : St) (v1 : Int32) (v2 : Nat) (v3 : Nat) : Nat × Int32 × St := f_C_take_S107 (wr s (21 + v3) 3 (s (5 + 2 * v2) 5)) v1 v2 v3
def f_C_take_S91 (s : St) (v1 : Int32) (v2 : Nat) (v3 : Nat) : Nat × Int32 × St := f_C_take_S99 (wr s (21 + v3) 2 (s (5 + 2 * v2) 7)) v1 v2 v3
def f_C_take (s : St) (p1 : Int32) : Nat × Int32 × St := if (s 0 3) = 0 then (1, 0, s)
  else if (s 0 6) = (-1) then (1, 0, s)
  else if (f_C_isHeld s p1) = 0 then (if (f_C_isThing p1) = 0 then (2, 0, s)
    else if (f_T_isUserOf s ((s 0 6).toNatClampNeg) p1) = 0 then (2, 0, s)
    else f_C_take_S91 (wr s (21 + p1.toNatClampNeg) 1 (s 0 6)) p1 ((s 0 6).toNatClampNeg) p1.toNatClampNeg)
  else (1, 0, s)
def f_C_give_S99 (s : St) (v2 : Nat) : Nat × Int32 × St := (0, (s (5 + 2 * v2) 5), s)
def f_C_give_S89 (s : St) (v1 : Int32) (v2 : Nat) : Nat × Int32 × St := f_C_give_S99 (f_C_happened s 3 (s 0 6) v1) v2
def f_C_give_S84 (s : St) (v1 : Int32) (v2 : Nat) (v3 : Nat) : Nat × Int32 × St := f_C_give_S89 (wr s (21 + v3) 1 (-1)) v1 v2
def f_C_give_S76 (s : St) (v1 : Int32) (v2 : Nat) (v3 : Nat) : Nat × Int32 × St := f_C_give_S84 (wr s (5 + 2 * v2) 5 (s (21 + v3) 3)) v1 v2 v3
def f_C_give (s : St) (p1 : Int32) : Nat × Int32 × St := if (s 0 6) = (-1) then (1, 0, s)
  else if (f_C_isThing p1) = 0 then (2, 0, s)
  else if (s (5 + 2 * (s 0 6).toNatClampNeg) 7) = p1 then f_C_give_S76 (wr s (5 + 2 * (s 0 6).toNatClampNeg) 7 (s (21 + p1.toNatClampNeg) 2)) p1 ((s 0 6).toNatClampNeg) p1.toNatClampNeg
  else (2, 0, s)
def f_C_finish_S60 (s : St) (v1 : Nat) : Nat × Int32 × St := (0, (s (5 + 2 * v1) 8), s)
def f_C_finish_S49 (s : St) (v1 : Nat) : Nat × Int32 × St := f_C_finish_S60 (f_C_happened s 4 (s 0 6) 15) v1
def f_C_finish (s : St) : Nat × Int32 × St := if (s 0 6) = (-1) then (1, 0, s)
  else if (s (5 + 2 * (s 0 6).toNatClampNeg) 7) = (-1) then f_C_finish_S49 (wr s (5 + 2 * (s 0 6).toNatClampNeg) 4 0) ((s 0 6).toNatClampNeg)
  else (1, 0, s)
def f_C_pass_S73 (s : St) : Nat × Int32 × St := (0, (s 0 4), s)
def f_C_pass_S56 (s : St) (v1 : Int32) : Nat × Int32 × St := f_C_pass_S73 (f_C_delayMoreUrgentThan s (s (5 + 2 * (s 0 6).toNatClampNeg) 0) v1)
def f_C_pass_S30 (s : St) (v1 : Int32) : Nat × Int32 × St := if (s 0 6) = (-1) then (0, (s 0 4), s)
  else f_C_pass_S56 (wr s (5 + 2 * (s 0 6).toNatClampNeg) 8 ((s (5 + 2 * (s 0 6).toNatClampNeg) 8) + v1)) v1
def f_C_pass (s : St) (p1 : Int32) : Nat × Int32 × St := if (f_C_isIn p1 0 100) = 0 then (2, 0, s)
  else f_C_pass_S30 (wr s 0 4 ((s 0 4) + p1)) p1
def f_C_running (s : St) : Int32 := (s 0 6)
def f_C_priority (s : St) (p1 : Int32) : Int32 := if (f_C_isDeclared s p1) = 0 then (-1)
  else if (s (5 + 2 * p1.toNatClampNeg) 4) = 0 then (s (5 + 2 * p1.toNatClampNeg) 0)
  else (s (5 + 2 * p1.toNatClampNeg) 5)
def f_C_place_L14 : Nat → Nat → St → Int32 → Int32 → Int32
  | 0, i, s, v1, v2 => v2
  | n + 1, i, s, v1, v2 => if (s (5 + 2 * i) 4) = 0 then f_C_place_L14 n (i + 1) s v1 v2
      else if (f_T_goesBefore s i v1.toNatClampNeg) = 0 then f_C_place_L14 n (i + 1) s v1 v2
      else f_C_place_L14 n (i + 1) s v1 (v2 + 1)
def f_C_place (s : St) (p1 : Int32) : Int32 := if (f_C_isReady s p1) = 0 then (-1)
  else f_C_place_L14 8 0 s p1 0
def f_C_ceiling (s : St) (p1 : Int32) : Int32 := if (s 0 3) = 0 then (-1)
  else if (f_C_isThing p1) = 0 then (-1)
  else (s (21 + p1.toNatClampNeg) 0)
def f_C_holder (s : St) (p1 : Int32) : Int32 := if (f_C_isThing p1) = 0 then (-1)
  else (s (21 + p1.toNatClampNeg) 1)
def f_C_spent (s : St) (p1 : Int32) (p2 : Int32) : Int32 := if (f_C_isDeclared s p1) = 0 then 0
  else if p2 = 0 then (s (5 + 2 * p1.toNatClampNeg) 8)
  else if p2 = 1 then (s (5 + 2 * p1.toNatClampNeg) 9)
  else 0
def f_C_blocking (s : St) (p1 : Int32) : Int32 := if (s 0 3) = 0 then (-1)
  else if (f_C_isDeclared s p1) = 0 then (-1)
  else (f_C_longestBlockingAt s (s (5 + 2 * p1.toNatClampNeg) 0))
def f_C_response_L43 : Nat → Nat → St → Int32 → Int32 → Int32
  | 0, i, s, v1, v2 => (-1)
  | n + 1, i, s, v1, v2 => if (v2 + (f_C_demandOfOthers s v1 (nI i))) = (nI i) then (nI i)
      else f_C_response_L43 n (i + 1) s v1 v2
def f_C_response (s : St) (p1 : Int32) : Int32 := if (s 0 3) = 0 then (-1)
  else if (f_C_isDeclared s p1) = 0 then (-1)
  else f_C_response_L43 (s (5 + 2 * p1.toNatClampNeg) 2).toNatClampNeg 1 s p1 ((s (5 + 2 * p1.toNatClampNeg) 1) + (f_C_longestBlockingAt s (s (5 + 2 * p1.toNatClampNeg) 0)))
def f_C_notes (s : St) : Int32 := (s 3 1)
def f_C_note (s : St) (p1 : Int32) : Int32 := (f_N_fromLatest s p1)
def f_M_thrown (s : St) : Int32 := (s 0 0)
def f_M_refuses_S21 (s : St) : Int32 × St := if (s 0 0) ≤ 0 then (0, s)
  else (1, s)
def f_M_refuses_B18 (s : St) (x1 : Int32) : Int32 × St := f_M_refuses_S21 (wr s 0 0 x1)
def f_M_refuses (s : St) (p1 : Int32) (p2 : Int32) : Int32 × St := if p1 = 0 then (if p2 = 0 then f_M_refuses_B18 s 0
    else f_M_refuses_B18 s 2)
  else f_M_refuses_B18 s 1
def f_M_isTask (p0 : Int32) : Int32 := if p0 < 0 then 0
  else if 8 ≤ p0 then 0
  else 1
def f_M_isThing (p0 : Int32) : Int32 := if p0 < 0 then 0
  else if 6 ≤ p0 then 0
  else 1
def f_M_isDeclared (s : St) (p1 : Int32) : Int32 := if (f_M_isTask p1) = 0 then 0
  else if (s 1 p1.toNatClampNeg) ≤ 0 then 0
  else 1
def f_M_isReady (s : St) (p1 : Int32) : Int32 := if (f_M_isTask p1) = 0 then 0
  else if (s 4 p1.toNatClampNeg) ≤ 0 then 0
  else 1
def f_M_declare_S102 (s : St) (v1 : Int32) (v2 : Int32) : St := wr s 5 v1.toNatClampNeg v2
def f_M_declare_S94 (s : St) (v1 : Int32) (v2 : Int32) (v4 : Int32) : St := f_M_declare_S102 (wr s 3 v1.toNatClampNeg v4) v1 v2
def f_M_declare_S87 (s : St) (v1 : Int32) (v2 : Int32) (v3 : Int32) (v4 : Int32) : St := f_M_declare_S94 (wr s 2 v1.toNatClampNeg v3) v1 v2 v4
def f_M_declare_S76 (s : St) (x0 : Int32) (v1 : Int32) (v2 : Int32) (v3 : Int32) (v4 : Int32) : St := if x0 = 0 then f_M_declare_S87 (wr s 1 v1.toNatClampNeg v2) v1 v2 v3 v4
  else s
def f_M_declare_B71 (s : St) (x1 : Int32) (v1 : Int32) (v2 : Int32) (v3 : Int32) (v4 : Int32) (v5 : Int32) : St := f_M_declare_S76 ((f_M_refuses s x1 v5).2) ((f_M_refuses s x1 v5).1) v1 v2 v3 v4
def f_M_declare_B66 (s : St) (v1 : Int32) (v2 : Int32) (v3 : Int32) (v4 : Int32) (v5 : Int32) : St := f_M_declare_B71 s 1 v1 v2 v3 v4 v5
def f_M_declare_B48 (s : St) (x0 : Int32) (v1 : Int32) (v2 : Int32) (v3 : Int32) (v4 : Int32) : St := if (s 0 1) = 0 then (if (f_M_isDeclared s v1) = 0 then f_M_declare_B71 s 0 v1 v2 v3 v4 x0
    else f_M_declare_B66 s v1 v2 v3 v4 x0)
  else f_M_declare_B66 s v1 v2 v3 v4 x0
def f_M_declare_B43 (s : St) (v1 : Int32) (v2 : Int32) (v3 : Int32) (v4 : Int32) : St := f_M_declare_B48 s 1 v1 v2 v3 v4
def f_M_declare (s : St) (p1 : Int32) (p2 : Int32) (p3 : Int32) (p4 : Int32) : St := if (f_M_isTask p1) = 0 then f_M_declare_B43 s p1 p2 p3 p4
  else if p2 < 1 then f_M_declare_B43 s p1 p2 p3 p4
  else if 16 < p2 then f_M_declare_B43 s p1 p2 p3 p4
  else if p3 < 1 then f_M_declare_B43 s p1 p2 p3 p4
  else if 50 < p3 then f_M_declare_B43 s p1 p2 p3 p4
  else if p4 < 1 then f_M_declare_B43 s p1 p2 p3 p4
  else if p4 ≤ 200 then f_M_declare_B48 s 0 p1 p2 p3 p4
  else f_M_declare_B43 s p1 p2 p3 p4
def f_M_mayUse_S39 (s : St) (x0 : Int32) (v1 : Int32) (v2 : Int32) (v3 : Int32) : St := if x0 = 0 then wr s 8 ((6 * v1) + v2).toNatClampNeg v3
  else s
def f_M_mayUse_B36 (s : St) (x1 : Int32) (x2 : Int32) (v1 : Int32) (v2 : Int32) (v3 : Int32) : St := f_M_mayUse_S39 ((f_M_refuses s x1 x2).2) ((f_M_refuses s x1 x2).1) v1 v2 v3
def f_M_mayUse_B31 (s : St) (x1 : Int32) (v1 : Int32) (v2 : Int32) (v3 : Int32) : St := f_M_mayUse_B36 s x1 1 v1 v2 v3
def f_M_mayUse (s : St) (p1 : Int32) (p2 : Int32) (p3 : Int32) : St := if (f_M_isDeclared s p1) = 0 then f_M_mayUse_B31 s (s 0 1) p1 p2 p3
  else if (f_M_isThing p2) = 0 then f_M_mayUse_B31 s (s 0 1) p1 p2 p3
  else if p3 < 1 then f_M_mayUse_B31 s (s 0 1) p1 p2 p3
  else if p3 ≤ 50 then f_M_mayUse_B36 s (s 0 1) 0 p1 p2 p3
  else f_M_mayUse_B31 s (s 0 1) p1 p2 p3
def f_M_seal_L23 : Nat → Nat → St → Int32 → Int32 × St
  | 0, i, s, v1 => (v1, s)
  | n + 1, i, s, v1 => if (s 1 i) ≤ 0 then f_M_seal_L23 n (i + 1) s (v1 + 0)
      else f_M_seal_L23 n (i + 1) s (v1 + 1)
def f_M_seal_S19 (s : St) : Int32 × St := f_M_seal_L23 8 0 s 0
def f_M_seal_S9 (s : St) (x0 : Int32) : Int32 × St := if x0 = 0 then f_M_seal_S19 (wr s 0 1 1)
  else (0, s)
def f_M_seal (s : St) : Int32 × St := f_M_seal_S9 ((f_M_refuses s (s 0 1) 0).2) ((f_M_refuses s (s 0 1) 0).1)
def f_M_isFirst (s : St) (p1 : Int32) (p2 : Int32) : Int32 := if (s 5 p2.toNatClampNeg) < (s 5 p1.toNatClampNeg) then 1
  else if (s 5 p1.toNatClampNeg) = (s 5 p2.toNatClampNeg) then (if (s 4 p2.toNatClampNeg) ≤ (s 4 p1.toNatClampNeg) then 0
    else 1)
  else 0
def f_M_runner_L4 : Nat → Nat → St → Int32 → Int32
  | 0, i, s, v1 => v1
  | n + 1, i, s, v1 => if (s 4 i) ≤ 0 then f_M_runner_L4 n (i + 1) s v1
      else if v1 = (-1) then f_M_runner_L4 n (i + 1) s (nI i)
      else if (f_M_isFirst s (nI i) v1) = 0 then f_M_runner_L4 n (i + 1) s v1
      else f_M_runner_L4 n (i + 1) s (nI i)
def f_M_runner (s : St) : Int32 := f_M_runner_L4 8 0 s (-1)
def f_M_add_S36 (s : St) : St := wr s 0 16 ((s 0 16) + 1)
def f_M_add (s : St) (p1 : Int32) (p2 : Int32) (p3 : Int32) : St := f_M_add_S36 (wr s 12 (irem (s 0 16) 40).toNatClampNeg (((((irem (s 0 2) 65536) * 4096) + (256 * p3)) + (16 * p2)) + p1))
def f_M_tell_B35 (s : St) (x1 : Int32) (x2 : Int32) : St := f_M_add s x1 x2 15
def f_M_tell_S7 (s : St) (v4 : Int32) : St := if (f_M_runner s) = v4 then s
  else if (f_M_runner s) = (-1) then f_M_tell_B35 s 5 8
  else f_M_tell_B35 s 5 (f_M_runner s)
def f_M_tell (s : St) (p1 : Int32) (p2 : Int32) (p3 : Int32) (p4 : Int32) : St := f_M_tell_S7 (f_M_add s p1 p2 p3) p4
def f_M_release_S102 (s : St) : Int32 × St := ((s 0 3), s)
def f_M_release_S93 (s : St) (v1 : Int32) (v2 : Int32) : Int32 × St := f_M_release_S102 (f_M_tell s 1 v1 15 v2)
def f_M_release_S86 (s : St) (v1 : Int32) (v2 : Int32) : Int32 × St := f_M_release_S93 (wr s 7 v1.toNatClampNeg 0) v1 v2
def f_M_release_S79 (s : St) (v1 : Int32) (v2 : Int32) : Int32 × St := f_M_release_S86 (wr s 6 v1.toNatClampNeg 0) v1 v2
def f_M_release_S67 (s : St) (v1 : Int32) (v2 : Int32) : Int32 × St := f_M_release_S79 (wr s 5 v1.toNatClampNeg (s 1 v1.toNatClampNeg)) v1 v2
def f_M_release_S57 (s : St) (v1 : Int32) (v2 : Int32) : Int32 × St := f_M_release_S67 (wr s 4 v1.toNatClampNeg (s 0 3)) v1 v2
def f_M_release_S37 (s : St) (x0 : Int32) (v1 : Int32) : Int32 × St := if x0 = 0 then f_M_release_S57 (wr s 0 3 ((s 0 3) + 1)) v1 (f_M_runner s)
  else (0, s)
def f_M_release_B34 (s : St) (x1 : Int32) (x2 : Int32) (v1 : Int32) : Int32 × St := f_M_release_S37 ((f_M_refuses s x1 x2).2) ((f_M_refuses s x1 x2).1) v1
def f_M_release_B21 (s : St) (x1 : Int32) (v1 : Int32) : Int32 × St := if (f_M_isDeclared s v1) = 0 then f_M_release_B34 s x1 1 v1
  else f_M_release_B34 s x1 0 v1
def f_M_release_B16 (s : St) (v1 : Int32) : Int32 × St := f_M_release_B21 s 1 v1
def f_M_release (s : St) (p1 : Int32) : Int32 × St := if (s 0 1) = 0 then f_M_release_B16 s p1
  else if (f_M_isReady s p1) = 0 then f_M_release_B21 s 0 p1
  else f_M_release_B16 s p1
def f_M_top_L4 : Nat → Nat → St → Int32 → Int32 → Int32
  | 0, i, s, v1, v2 => v2
  | n + 1, i, s, v1, v2 => if (s 8 ((6 * (nI i)) + v1).toNatClampNeg) ≤ 0 then f_M_top_L4 n (i + 1) s v1 v2
      else if (s 1 i) ≤ v2 then f_M_top_L4 n (i + 1) s v1 v2
      else f_M_top_L4 n (i + 1) s v1 (s 1 i)
def f_M_top (s : St) (p1 : Int32) : Int32 := f_M_top_L4 8 0 s p1 0
def f_M_take_S183 (s : St) (v2 : Int32) : Int32 × St := ((s 5 v2.toNatClampNeg), s)
def f_M_take_S175 (s : St) (v1 : Int32) (v2 : Int32) : Int32 × St := f_M_take_S183 (f_M_tell s 2 v2 v1 v2) v2
def f_M_take_B174 (s : St) (x1 : Int32) (x2 : Int32) (v1 : Int32) (v2 : Int32) : Int32 × St := f_M_take_S175 (wr s 5 x1.toNatClampNeg x2) v1 v2
def f_M_take_S140 (s : St) (v1 : Int32) (v2 : Int32) : Int32 × St := if (f_M_top s v1) ≤ (s 5 v2.toNatClampNeg) then f_M_take_B174 s v2 (s 5 v2.toNatClampNeg) v1 v2
  else f_M_take_B174 s v2 (f_M_top s v1) v1 v2
def f_M_take_S128 (s : St) (v1 : Int32) (v2 : Int32) : Int32 × St := f_M_take_S140 (wr s 10 v1.toNatClampNeg (s 5 v2.toNatClampNeg)) v1 v2
def f_M_take_S121 (s : St) (v1 : Int32) (v2 : Int32) : Int32 × St := f_M_take_S128 (wr s 9 v1.toNatClampNeg v2) v1 v2
def f_M_take_S111 (s : St) (v1 : Int32) (v2 : Int32) : Int32 × St := f_M_take_S121 (wr s 11 v1.toNatClampNeg (s 0 15)) v1 v2
def f_M_take_S96 (s : St) (x0 : Int32) (v1 : Int32) (v2 : Int32) : Int32 × St := if x0 = 0 then f_M_take_S111 (wr s 0 15 ((s 0 15) + 1)) v1 v2
  else (0, s)
def f_M_take_B93 (s : St) (x1 : Int32) (x2 : Int32) (v1 : Int32) (v2 : Int32) : Int32 × St := f_M_take_S96 ((f_M_refuses s x1 x2).2) ((f_M_refuses s x1 x2).1) v1 v2
def f_M_take_B83 (s : St) (x1 : Int32) (v1 : Int32) (v2 : Int32) (v4 : Int32) : Int32 × St := if v4 = 0 then f_M_take_B93 s x1 1 v1 v2
  else f_M_take_B93 s x1 0 v1 v2
def f_M_take_B78 (s : St) (v1 : Int32) (v2 : Int32) (v4 : Int32) : Int32 × St := f_M_take_B83 s 1 v1 v2 v4
def f_M_take_B59 (s : St) (x0 : Int32) (v1 : Int32) (v2 : Int32) (v3 : Int32) : Int32 × St := if (s 0 1) = 0 then f_M_take_B78 s v1 v2 x0
  else if v2 = (-1) then f_M_take_B78 s v1 v2 x0
  else if v3 = 0 then f_M_take_B83 s 0 v1 v2 x0
  else f_M_take_B78 s v1 v2 x0
def f_M_take_B58 (s : St) (v1 : Int32) (v2 : Int32) (v3 : Int32) : Int32 × St := f_M_take_B59 s 0 v1 v2 v3
def f_M_take_B27 (s : St) (x0 : Int32) (v1 : Int32) (v2 : Int32) : Int32 × St := if (f_M_isThing v1) = 0 then f_M_take_B58 s v1 v2 x0
  else if v2 = (-1) then f_M_take_B58 s v1 v2 x0
  else if (s 8 ((6 * v2) + v1).toNatClampNeg) ≤ 0 then f_M_take_B58 s v1 v2 x0
  else f_M_take_B59 s 1 v1 v2 x0
def f_M_take_B26 (s : St) (v1 : Int32) (v2 : Int32) : Int32 × St := f_M_take_B27 s 0 v1 v2
def f_M_take (s : St) (p1 : Int32) : Int32 × St := if (f_M_isThing p1) = 0 then f_M_take_B26 s p1 (f_M_runner s)
  else if (s 9 p1.toNatClampNeg) = (-1) then f_M_take_B26 s p1 (f_M_runner s)
  else f_M_take_B27 s 1 p1 (f_M_runner s)
def f_M_latest_L4 : Nat → Nat → St → Int32 → Int32 → Int32
  | 0, i, s, v1, v2 => v2
  | n + 1, i, s, v1, v2 => if (s 9 i) = v1 then (if v2 = (-1) then f_M_latest_L4 n (i + 1) s v1 (nI i)
        else if (s 11 i) ≤ (s 11 v2.toNatClampNeg) then f_M_latest_L4 n (i + 1) s v1 v2
        else f_M_latest_L4 n (i + 1) s v1 (nI i))
      else f_M_latest_L4 n (i + 1) s v1 v2
def f_M_latest (s : St) (p1 : Int32) : Int32 := f_M_latest_L4 6 0 s p1 (-1)
def f_M_give_S79 (s : St) (v2 : Int32) : Int32 × St := ((s 5 v2.toNatClampNeg), s)
def f_M_give_S71 (s : St) (v1 : Int32) (v2 : Int32) : Int32 × St := f_M_give_S79 (f_M_tell s 3 v2 v1 v2) v2
def f_M_give_S59 (s : St) (v1 : Int32) (v2 : Int32) : Int32 × St := f_M_give_S71 (wr s 5 v2.toNatClampNeg (s 10 v1.toNatClampNeg)) v1 v2
def f_M_give_S47 (s : St) (x0 : Int32) (v1 : Int32) (v2 : Int32) : Int32 × St := if x0 = 0 then f_M_give_S59 (wr s 9 v1.toNatClampNeg (-1)) v1 v2
  else (0, s)
def f_M_give_B44 (s : St) (x1 : Int32) (x2 : Int32) (v1 : Int32) (v2 : Int32) : Int32 × St := f_M_give_S47 ((f_M_refuses s x1 x2).2) ((f_M_refuses s x1 x2).1) v1 v2
def f_M_give_B39 (s : St) (x1 : Int32) (v1 : Int32) (v2 : Int32) : Int32 × St := f_M_give_B44 s x1 1 v1 v2
def f_M_give_B16 (s : St) (x1 : Int32) (v1 : Int32) (v2 : Int32) : Int32 × St := if v2 = (-1) then f_M_give_B39 s x1 v1 v2
  else if (f_M_latest s v2) = (-1) then f_M_give_B39 s x1 v1 v2
  else if (f_M_latest s v2) = v1 then f_M_give_B44 s x1 0 v1 v2
  else f_M_give_B39 s x1 v1 v2
def f_M_give (s : St) (p1 : Int32) : Int32 × St := if (f_M_runner s) = (-1) then f_M_give_B16 s 1 p1 (f_M_runner s)
  else f_M_give_B16 s 0 p1 (f_M_runner s)
def f_M_finish_S62 (s : St) (v1 : Int32) : Int32 × St := ((s 6 v1.toNatClampNeg), s)
def f_M_finish_S53 (s : St) (v1 : Int32) : Int32 × St := f_M_finish_S62 (f_M_tell s 4 v1 15 v1) v1
def f_M_finish_S41 (s : St) (v1 : Int32) : Int32 × St := f_M_finish_S53 (wr s 5 v1.toNatClampNeg (s 1 v1.toNatClampNeg)) v1
def f_M_finish_S29 (s : St) (x0 : Int32) (v1 : Int32) : Int32 × St := if x0 = 0 then f_M_finish_S41 (wr s 4 v1.toNatClampNeg 0) v1
  else (0, s)
def f_M_finish_B25 (s : St) (x1 : Int32) (v1 : Int32) : Int32 × St := f_M_finish_S29 ((f_M_refuses s x1 0).2) ((f_M_refuses s x1 0).1) v1
def f_M_finish_B20 (s : St) (v1 : Int32) : Int32 × St := f_M_finish_B25 s 1 v1
def f_M_finish (s : St) : Int32 × St := if (f_M_runner s) = (-1) then f_M_finish_B20 s (f_M_runner s)
  else if (f_M_latest s (f_M_runner s)) = (-1) then f_M_finish_B25 s 0 (f_M_runner s)
  else f_M_finish_B20 s (f_M_runner s)
def f_M_pass_L42 : Nat → Nat → St → Int32 → Int32 → Int32 × St
  | 0, i, s, v1, v2 => ((s 0 2), s)
  | n + 1, i, s, v1, v2 => if v2 = (-1) then ((s 0 2), s)
      else if (nI i) = v2 then (if ((wr s 6 i ((s 6 i) + v1)) 4 i) ≤ 0 then f_M_pass_L42 n (i + 1) (wr (wr s 6 i ((s 6 i) + v1)) 7 i (((wr s 6 i ((s 6 i) + v1)) 7 i) + 0)) v1 v2
        else if ((wr s 6 i ((s 6 i) + v1)) 1 i) ≤ ((wr s 6 i ((s 6 i) + v1)) 1 v2.toNatClampNeg) then f_M_pass_L42 n (i + 1) (wr (wr s 6 i ((s 6 i) + v1)) 7 i (((wr s 6 i ((s 6 i) + v1)) 7 i) + 0)) v1 v2
        else f_M_pass_L42 n (i + 1) (wr (wr s 6 i ((s 6 i) + v1)) 7 i (((wr s 6 i ((s 6 i) + v1)) 7 i) + v1)) v1 v2)
      else if ((wr s 6 i ((s 6 i) + 0)) 4 i) ≤ 0 then f_M_pass_L42 n (i + 1) (wr (wr s 6 i ((s 6 i) + 0)) 7 i (((wr s 6 i ((s 6 i) + 0)) 7 i) + 0)) v1 v2
      else if ((wr s 6 i ((s 6 i) + 0)) 1 i) ≤ ((wr s 6 i ((s 6 i) + 0)) 1 v2.toNatClampNeg) then f_M_pass_L42 n (i + 1) (wr (wr s 6 i ((s 6 i) + 0)) 7 i (((wr s 6 i ((s 6 i) + 0)) 7 i) + 0)) v1 v2
      else f_M_pass_L42 n (i + 1) (wr (wr s 6 i ((s 6 i) + 0)) 7 i (((wr s 6 i ((s 6 i) + 0)) 7 i) + v1)) v1 v2
def f_M_pass_S40 (s : St) (v1 : Int32) (v2 : Int32) : Int32 × St := f_M_pass_L42 8 0 s v1 v2
def f_M_pass_S20 (s : St) (x0 : Int32) (v1 : Int32) : Int32 × St := if x0 = 0 then f_M_pass_S40 (wr s 0 2 ((s 0 2) + v1)) v1 (f_M_runner s)
  else (0, s)
def f_M_pass_B16 (s : St) (x1 : Int32) (v1 : Int32) : Int32 × St := f_M_pass_S20 ((f_M_refuses s x1 0).2) ((f_M_refuses s x1 0).1) v1
def f_M_pass_B11 (s : St) (v1 : Int32) : Int32 × St := f_M_pass_B16 s 1 v1
def f_M_pass (s : St) (p1 : Int32) : Int32 × St := if p1 < 0 then f_M_pass_B11 s p1
  else if p1 ≤ 100 then f_M_pass_B16 s 0 p1
  else f_M_pass_B11 s p1
def f_M_running_S5 (s : St) : Int32 × St := ((f_M_runner s), s)
def f_M_running (s : St) : Int32 × St := f_M_running_S5 (wr s 0 0 0)
def f_M_priority_S5 (s : St) (v1 : Int32) : Int32 × St := if (f_M_isDeclared s v1) = 0 then ((-1), s)
  else ((s 5 v1.toNatClampNeg), s)
def f_M_priority (s : St) (p1 : Int32) : Int32 × St := f_M_priority_S5 (wr s 0 0 0) p1
def f_M_place_L19 : Nat → Nat → St → Int32 → Int32 → Int32 × St
  | 0, i, s, v1, v2 => (v2, s)
  | n + 1, i, s, v1, v2 => if (s 4 i) ≤ 0 then f_M_place_L19 n (i + 1) s v1 (v2 + 0)
      else if (nI i) = v1 then f_M_place_L19 n (i + 1) s v1 (v2 + 0)
      else if (f_M_isFirst s (nI i) v1) = 0 then f_M_place_L19 n (i + 1) s v1 (v2 + 0)
      else f_M_place_L19 n (i + 1) s v1 (v2 + 1)
def f_M_place_S5 (s : St) (v1 : Int32) : Int32 × St := if (f_M_isReady s v1) = 0 then ((-1), s)
  else f_M_place_L19 8 0 s v1 0
def f_M_place (s : St) (p1 : Int32) : Int32 × St := f_M_place_S5 (wr s 0 0 0) p1
def f_M_ceiling_S5 (s : St) (v1 : Int32) : Int32 × St := if (s 0 1) = 0 then ((-1), s)
  else if (f_M_isThing v1) = 0 then ((-1), s)
  else ((f_M_top s v1), s)
def f_M_ceiling (s : St) (p1 : Int32) : Int32 × St := f_M_ceiling_S5 (wr s 0 0 0) p1
def f_M_holder_S5 (s : St) (v1 : Int32) : Int32 × St := if (f_M_isThing v1) = 0 then ((-1), s)
  else ((s 9 v1.toNatClampNeg), s)
def f_M_holder (s : St) (p1 : Int32) : Int32 × St := f_M_holder_S5 (wr s 0 0 0) p1
def f_M_spent_S5 (s : St) (v1 : Int32) (v2 : Int32) : Int32 × St := if (f_M_isDeclared s v1) = 0 then (0, s)
  else if v2 = 0 then ((s 6 v1.toNatClampNeg), s)
  else if v2 = 1 then ((s 7 v1.toNatClampNeg), s)
  else (0, s)
def f_M_spent (s : St) (p1 : Int32) (p2 : Int32) : Int32 × St := f_M_spent_S5 (wr s 0 0 0) p1 p2
def f_M_longest_L4 : Nat → Nat → St → Int32 → Int32 → Int32
  | 0, i, s, v1, v2 => v2
  | n + 1, i, s, v1, v2 => if (s 1 v1.toNatClampNeg) ≤ (s 1 ((nI i) / 6).toNatClampNeg) then f_M_longest_L4 n (i + 1) s v1 v2
      else if (s 8 i) ≤ 0 then f_M_longest_L4 n (i + 1) s v1 v2
      else if (f_M_top s (irem (nI i) 6)) < (s 1 v1.toNatClampNeg) then f_M_longest_L4 n (i + 1) s v1 v2
      else if (s 8 i) ≤ v2 then f_M_longest_L4 n (i + 1) s v1 v2
      else f_M_longest_L4 n (i + 1) s v1 (s 8 i)
def f_M_longest (s : St) (p1 : Int32) : Int32 := f_M_longest_L4 48 0 s p1 0
def f_M_blocking_S5 (s : St) (v1 : Int32) : Int32 × St := if (s 0 1) = 0 then ((-1), s)
  else if (f_M_isDeclared s v1) = 0 then ((-1), s)
  else ((f_M_longest s v1), s)
def f_M_blocking (s : St) (p1 : Int32) : Int32 × St := f_M_blocking_S5 (wr s 0 0 0) p1
def f_M_load_L16 : Nat → Nat → St → Int32 → Int32 → Int32 → Int32
  | 0, i, s, v1, v2, v3 => v3
  | n + 1, i, s, v1, v2, v3 => if (nI i) = v1 then f_M_load_L16 n (i + 1) s v1 v2 (v3 + 0)
      else if (s 1 i) ≤ 0 then f_M_load_L16 n (i + 1) s v1 v2 (v3 + 0)
      else if (s 1 i) < (s 1 v1.toNatClampNeg) then f_M_load_L16 n (i + 1) s v1 v2 (v3 + 0)
      else f_M_load_L16 n (i + 1) s v1 v2 (v3 + ((((v2 + (s 3 i)) - 1) / (s 3 i)) * (s 2 i)))
def f_M_load (s : St) (p1 : Int32) (p2 : Int32) : Int32 := f_M_load_L16 8 0 s p1 p2 ((s 2 p1.toNatClampNeg) + (f_M_longest s p1))
def f_M_response_L24 : Nat → Nat → St → Int32 → Int32 × St
  | 0, i, s, v1 => ((-1), s)
  | n + 1, i, s, v1 => if (f_M_load s v1 (nI i)) = (nI i) then ((nI i), s)
      else f_M_response_L24 n (i + 1) s v1
def f_M_response_S5 (s : St) (v1 : Int32) : Int32 × St := if (s 0 1) = 0 then ((-1), s)
  else if (f_M_isDeclared s v1) = 0 then ((-1), s)
  else f_M_response_L24 (s 3 v1.toNatClampNeg).toNatClampNeg 1 s v1
def f_M_response (s : St) (p1 : Int32) : Int32 × St := f_M_response_S5 (wr s 0 0 0) p1
def f_M_notes_S5 (s : St) : Int32 × St := ((s 0 16), s)
def f_M_notes (s : St) : Int32 × St := f_M_notes_S5 (wr s 0 0 0)
def f_M_note_S5 (s : St) (v1 : Int32) : Int32 × St := if v1 < 0 then ((-1), s)
  else if 40 ≤ v1 then ((-1), s)
  else if v1 < (s 0 16) then ((s 12 (irem (((s 0 16) - 1) - v1) 40).toNatClampNeg), s)
  else ((-1), s)
def f_M_note (s : St) (p1 : Int32) : Int32 × St := f_M_note_S5 (wr s 0 0 0) p1
