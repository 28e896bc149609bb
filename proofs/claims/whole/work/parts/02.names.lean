-- names (printed by wip/gen/names.py out of the class files and the table of words)
def TT : List Cond := lw_tbl.filter goodWord
theorem tt_in {w : Cond} (i : Nat) (h : lw_tbl[i]? = some w) (g : goodWord w = true) : w ∈ TT := List.mem_filter.mpr ⟨List.mem_of_getElem? h, g⟩
theorem tt_good : ∀ w ∈ TT, goodWord w = true := fun w h => (List.mem_filter.mp h).2
def R_C : String := "CeilingDispatch"
def R_T : String := "CeilingDispatch$Task"
def R_H : String := "CeilingDispatch$Thing"
def R_N : String := "CeilingDispatch$NoteBook"
def R_M : String := "CeilingDispatchModel"
def R_L : String := "CeilingDispatchLaw"
def R_J : String := "java/lang/Math"
def F_C : u_T := fun k => match k with
  | 0 => ("CeilingDispatch", "tasks", "[LCeilingDispatch$Task;", true)
  | 1 => ("CeilingDispatch", "things", "[LCeilingDispatch$Thing;", true)
  | 2 => ("CeilingDispatch", "book", "LCeilingDispatch$NoteBook;", true)
  | 3 => ("CeilingDispatch", "sealed", "Z", false)
  | 4 => ("CeilingDispatch", "clock", "I", false)
  | 5 => ("CeilingDispatch", "releases", "I", false)
  | _ => ("CeilingDispatch", "runner", "I", false)
def ft_C : Nat → FieldType := fun k => match k with
  | 0 => .array (.object "CeilingDispatch$Task")
  | 1 => .array (.object "CeilingDispatch$Thing")
  | 2 => .object "CeilingDispatch$NoteBook"
  | 3 => .boolean
  | 4 => .int
  | 5 => .int
  | _ => .int
theorem n_C : ∀ a, a < 7 → ∀ b, b < 7 → a ≠ b → (F_C a).2.1 ≠ (F_C b).2.1 := by decide +kernel
theorem ft_C_ok : ∀ k, k < 7 → parseFieldDescriptor (F_C k).2.2.1 = some (ft_C k) := by decide +kernel
theorem in_C : ∀ w ∈ u_ws R_C F_C 7, w ∈ TT := by
  have h : u_ws R_C F_C 7 = [136, 138, 140, 142, 144, 146, 148].filterMap (fun i => lw_tbl[i]?) := by decide +kernel
  have g : (u_ws R_C F_C 7).all goodWord = true := by decide +kernel
  intro w hw
  refine List.mem_filter.mpr ⟨?_, List.all_eq_true.mp g w hw⟩
  rw [h] at hw
  obtain ⟨i, -, hi⟩ := List.mem_filterMap.mp hw
  exact List.mem_of_getElem? hi
def F_T : u_T := fun k => match k with
  | 0 => ("CeilingDispatch$Task", "base", "I", false)
  | 1 => ("CeilingDispatch$Task", "cost", "I", false)
  | 2 => ("CeilingDispatch$Task", "period", "I", false)
  | 3 => ("CeilingDispatch$Task", "lengths", "[I", true)
  | 4 => ("CeilingDispatch$Task", "ready", "Z", false)
  | 5 => ("CeilingDispatch$Task", "priority", "I", false)
  | 6 => ("CeilingDispatch$Task", "turn", "I", false)
  | 7 => ("CeilingDispatch$Task", "lastTaken", "I", false)
  | 8 => ("CeilingDispatch$Task", "work", "I", false)
  | _ => ("CeilingDispatch$Task", "delay", "I", false)
def ft_T : Nat → FieldType := fun k => match k with
  | 0 => .int
  | 1 => .int
  | 2 => .int
  | 3 => .array .int
  | 4 => .boolean
  | 5 => .int
  | 6 => .int
  | 7 => .int
  | 8 => .int
  | _ => .int
theorem n_T : ∀ a, a < 10 → ∀ b, b < 10 → a ≠ b → (F_T a).2.1 ≠ (F_T b).2.1 := by decide +kernel
theorem ft_T_ok : ∀ k, k < 10 → parseFieldDescriptor (F_T k).2.2.1 = some (ft_T k) := by decide +kernel
theorem in_T : ∀ w ∈ u_ws R_T F_T 10, w ∈ TT := by
  have h : u_ws R_T F_T 10 = [86, 88, 90, 92, 94, 96, 98, 100, 102, 104].filterMap (fun i => lw_tbl[i]?) := by decide +kernel
  have g : (u_ws R_T F_T 10).all goodWord = true := by decide +kernel
  intro w hw
  refine List.mem_filter.mpr ⟨?_, List.all_eq_true.mp g w hw⟩
  rw [h] at hw
  obtain ⟨i, -, hi⟩ := List.mem_filterMap.mp hw
  exact List.mem_of_getElem? hi
def F_H : u_T := fun k => match k with
  | 0 => ("CeilingDispatch$Thing", "ceiling", "I", false)
  | 1 => ("CeilingDispatch$Thing", "holder", "I", false)
  | 2 => ("CeilingDispatch$Thing", "takenBefore", "I", false)
  | _ => ("CeilingDispatch$Thing", "priorityBefore", "I", false)
def ft_H : Nat → FieldType := fun k => match k with
  | 0 => .int
  | 1 => .int
  | 2 => .int
  | _ => .int
theorem n_H : ∀ a, a < 4 → ∀ b, b < 4 → a ≠ b → (F_H a).2.1 ≠ (F_H b).2.1 := by decide +kernel
theorem ft_H_ok : ∀ k, k < 4 → parseFieldDescriptor (F_H k).2.2.1 = some (ft_H k) := by decide +kernel
theorem in_H : ∀ w ∈ u_ws R_H F_H 4, w ∈ TT := by
  have h : u_ws R_H F_H 4 = [120, 122, 124, 126].filterMap (fun i => lw_tbl[i]?) := by decide +kernel
  have g : (u_ws R_H F_H 4).all goodWord = true := by decide +kernel
  intro w hw
  refine List.mem_filter.mpr ⟨?_, List.all_eq_true.mp g w hw⟩
  rw [h] at hw
  obtain ⟨i, -, hi⟩ := List.mem_filterMap.mp hw
  exact List.mem_of_getElem? hi
def F_N : u_T := fun k => match k with
  | 0 => ("CeilingDispatch$NoteBook", "kept", "[I", true)
  | _ => ("CeilingDispatch$NoteBook", "made", "I", false)
def ft_N : Nat → FieldType := fun k => match k with
  | 0 => .array .int
  | _ => .int
theorem n_N : ∀ a, a < 2 → ∀ b, b < 2 → a ≠ b → (F_N a).2.1 ≠ (F_N b).2.1 := by decide +kernel
theorem ft_N_ok : ∀ k, k < 2 → parseFieldDescriptor (F_N k).2.2.1 = some (ft_N k) := by decide +kernel
theorem in_N : ∀ w ∈ u_ws R_N F_N 2, w ∈ TT := by
  have h : u_ws R_N F_N 2 = [56, 58].filterMap (fun i => lw_tbl[i]?) := by decide +kernel
  have g : (u_ws R_N F_N 2).all goodWord = true := by decide +kernel
  intro w hw
  refine List.mem_filter.mpr ⟨?_, List.all_eq_true.mp g w hw⟩
  rw [h] at hw
  obtain ⟨i, -, hi⟩ := List.mem_filterMap.mp hw
  exact List.mem_of_getElem? hi
def F_M : u_T := fun k => match k with
  | 0 => ("CeilingDispatchModel", "thrown", "I", false)
  | 1 => ("CeilingDispatchModel", "sealed", "Z", false)
  | 2 => ("CeilingDispatchModel", "clock", "I", false)
  | 3 => ("CeilingDispatchModel", "releases", "I", false)
  | 4 => ("CeilingDispatchModel", "bases", "[I", true)
  | 5 => ("CeilingDispatchModel", "costs", "[I", true)
  | 6 => ("CeilingDispatchModel", "periods", "[I", true)
  | 7 => ("CeilingDispatchModel", "turns", "[I", true)
  | 8 => ("CeilingDispatchModel", "priorities", "[I", true)
  | 9 => ("CeilingDispatchModel", "works", "[I", true)
  | 10 => ("CeilingDispatchModel", "delays", "[I", true)
  | 11 => ("CeilingDispatchModel", "lengths", "[I", true)
  | 12 => ("CeilingDispatchModel", "holders", "[I", true)
  | 13 => ("CeilingDispatchModel", "before", "[I", true)
  | 14 => ("CeilingDispatchModel", "taken", "[I", true)
  | 15 => ("CeilingDispatchModel", "takes", "I", false)
  | 16 => ("CeilingDispatchModel", "made", "I", false)
  | _ => ("CeilingDispatchModel", "kept", "[I", true)
def ft_M : Nat → FieldType := fun k => match k with
  | 0 => .int
  | 1 => .boolean
  | 2 => .int
  | 3 => .int
  | 4 => .array .int
  | 5 => .array .int
  | 6 => .array .int
  | 7 => .array .int
  | 8 => .array .int
  | 9 => .array .int
  | 10 => .array .int
  | 11 => .array .int
  | 12 => .array .int
  | 13 => .array .int
  | 14 => .array .int
  | 15 => .int
  | 16 => .int
  | _ => .array .int
theorem n_M : ∀ a, a < 18 → ∀ b, b < 18 → a ≠ b → (F_M a).2.1 ≠ (F_M b).2.1 := by decide +kernel
theorem ft_M_ok : ∀ k, k < 18 → parseFieldDescriptor (F_M k).2.2.1 = some (ft_M k) := by decide +kernel
theorem in_M : ∀ w ∈ u_ws R_M F_M 18, w ∈ TT := by
  have h : u_ws R_M F_M 18 = [452, 454, 456, 458, 460, 462, 464, 466, 468, 470, 472, 474, 476, 478, 480, 482, 484, 486].filterMap (fun i => lw_tbl[i]?) := by decide +kernel
  have g : (u_ws R_M F_M 18).all goodWord = true := by decide +kernel
  intro w hw
  refine List.mem_filter.mpr ⟨?_, List.all_eq_true.mp g w hw⟩
  rw [h] at hw
  obtain ⟨i, -, hi⟩ := List.mem_filterMap.mp hw
  exact List.mem_of_getElem? hi
abbrev cls9 : List vw_C := [(R_C, F_C, 7), (R_T, F_T, 10), (R_H, F_H, 4), (R_N, F_N, 2), (R_M, F_M, 18)]
abbrev b_C_init : ByteArray := prog_1_method_1_code
def y_C_init : MethodName := ⟨R_C, "<init>", "()V"⟩
def w_C_init : List Cond := Cond.code y_C_init b_C_init 2 none :: TT
abbrev b_C_declare : ByteArray := prog_1_method_2_code
def y_C_declare : MethodName := ⟨R_C, "declare", "(IIII)V"⟩
def w_C_declare : List Cond := Cond.code y_C_declare b_C_declare 6 none :: TT
abbrev b_C_mayUse : ByteArray := prog_1_method_3_code
def y_C_mayUse : MethodName := ⟨R_C, "mayUse", "(III)V"⟩
def w_C_mayUse : List Cond := Cond.code y_C_mayUse b_C_mayUse 4 none :: TT
abbrev b_C_seal : ByteArray := prog_1_method_4_code
def y_C_seal : MethodName := ⟨R_C, "seal", "()I"⟩
def w_C_seal : List Cond := Cond.code y_C_seal b_C_seal 2 (some .int) :: TT
abbrev b_C_release : ByteArray := prog_1_method_5_code
def y_C_release : MethodName := ⟨R_C, "release", "(I)I"⟩
def w_C_release : List Cond := Cond.code y_C_release b_C_release 2 (some .int) :: TT
abbrev b_C_take : ByteArray := prog_1_method_6_code
def y_C_take : MethodName := ⟨R_C, "take", "(I)I"⟩
def w_C_take : List Cond := Cond.code y_C_take b_C_take 4 (some .int) :: TT
abbrev b_C_give : ByteArray := prog_1_method_7_code
def y_C_give : MethodName := ⟨R_C, "give", "(I)I"⟩
def w_C_give : List Cond := Cond.code y_C_give b_C_give 4 (some .int) :: TT
abbrev b_C_finish : ByteArray := prog_1_method_8_code
def y_C_finish : MethodName := ⟨R_C, "finish", "()I"⟩
def w_C_finish : List Cond := Cond.code y_C_finish b_C_finish 2 (some .int) :: TT
abbrev b_C_pass : ByteArray := prog_1_method_9_code
def y_C_pass : MethodName := ⟨R_C, "pass", "(I)I"⟩
def w_C_pass : List Cond := Cond.code y_C_pass b_C_pass 2 (some .int) :: TT
abbrev b_C_running : ByteArray := prog_1_method_10_code
def y_C_running : MethodName := ⟨R_C, "running", "()I"⟩
def w_C_running : List Cond := Cond.code y_C_running b_C_running 1 (some .int) :: TT
abbrev b_C_priority : ByteArray := prog_1_method_11_code
def y_C_priority : MethodName := ⟨R_C, "priority", "(I)I"⟩
def w_C_priority : List Cond := Cond.code y_C_priority b_C_priority 2 (some .int) :: TT
abbrev b_C_place : ByteArray := prog_1_method_12_code
def y_C_place : MethodName := ⟨R_C, "place", "(I)I"⟩
def w_C_place : List Cond := Cond.code y_C_place b_C_place 4 (some .int) :: TT
abbrev b_C_ceiling : ByteArray := prog_1_method_13_code
def y_C_ceiling : MethodName := ⟨R_C, "ceiling", "(I)I"⟩
def w_C_ceiling : List Cond := Cond.code y_C_ceiling b_C_ceiling 2 (some .int) :: TT
abbrev b_C_holder : ByteArray := prog_1_method_14_code
def y_C_holder : MethodName := ⟨R_C, "holder", "(I)I"⟩
def w_C_holder : List Cond := Cond.code y_C_holder b_C_holder 2 (some .int) :: TT
abbrev b_C_spent : ByteArray := prog_1_method_15_code
def y_C_spent : MethodName := ⟨R_C, "spent", "(II)I"⟩
def w_C_spent : List Cond := Cond.code y_C_spent b_C_spent 3 (some .int) :: TT
abbrev b_C_blocking : ByteArray := prog_1_method_16_code
def y_C_blocking : MethodName := ⟨R_C, "blocking", "(I)I"⟩
def w_C_blocking : List Cond := Cond.code y_C_blocking b_C_blocking 2 (some .int) :: TT
abbrev b_C_response : ByteArray := prog_1_method_17_code
def y_C_response : MethodName := ⟨R_C, "response", "(I)I"⟩
def w_C_response : List Cond := Cond.code y_C_response b_C_response 4 (some .int) :: TT
abbrev b_C_notes : ByteArray := prog_1_method_18_code
def y_C_notes : MethodName := ⟨R_C, "notes", "()I"⟩
def w_C_notes : List Cond := Cond.code y_C_notes b_C_notes 1 (some .int) :: TT
abbrev b_C_note : ByteArray := prog_1_method_19_code
def y_C_note : MethodName := ⟨R_C, "note", "(I)I"⟩
def w_C_note : List Cond := Cond.code y_C_note b_C_note 2 (some .int) :: TT
abbrev b_C_isIn : ByteArray := prog_1_method_20_code
def y_C_isIn : MethodName := ⟨R_C, "isIn", "(III)Z"⟩
def w_C_isIn : List Cond := Cond.code y_C_isIn b_C_isIn 3 (some .boolean) :: TT
abbrev b_C_isThing : ByteArray := prog_1_method_21_code
def y_C_isThing : MethodName := ⟨R_C, "isThing", "(I)Z"⟩
def w_C_isThing : List Cond := Cond.code y_C_isThing b_C_isThing 1 (some .boolean) :: TT
abbrev b_C_isDeclared : ByteArray := prog_1_method_22_code
def y_C_isDeclared : MethodName := ⟨R_C, "isDeclared", "(I)Z"⟩
def w_C_isDeclared : List Cond := Cond.code y_C_isDeclared b_C_isDeclared 2 (some .boolean) :: TT
abbrev b_C_isReady : ByteArray := prog_1_method_23_code
def y_C_isReady : MethodName := ⟨R_C, "isReady", "(I)Z"⟩
def w_C_isReady : List Cond := Cond.code y_C_isReady b_C_isReady 2 (some .boolean) :: TT
abbrev b_C_isHeld : ByteArray := prog_1_method_24_code
def y_C_isHeld : MethodName := ⟨R_C, "isHeld", "(I)Z"⟩
def w_C_isHeld : List Cond := Cond.code y_C_isHeld b_C_isHeld 2 (some .boolean) :: TT
abbrev b_C_countDeclared : ByteArray := prog_1_method_25_code
def y_C_countDeclared : MethodName := ⟨R_C, "countDeclared", "()I"⟩
def w_C_countDeclared : List Cond := Cond.code y_C_countDeclared b_C_countDeclared 3 (some .int) :: TT
abbrev b_C_greatestBaseOfUsers : ByteArray := prog_1_method_26_code
def y_C_greatestBaseOfUsers : MethodName := ⟨R_C, "greatestBaseOfUsers", "(I)I"⟩
def w_C_greatestBaseOfUsers : List Cond := Cond.code y_C_greatestBaseOfUsers b_C_greatestBaseOfUsers 4 (some .int) :: TT
abbrev b_C_happened : ByteArray := prog_1_method_27_code
def y_C_happened : MethodName := ⟨R_C, "happened", "(III)V"⟩
def w_C_happened : List Cond := Cond.code y_C_happened b_C_happened 5 none :: TT
abbrev b_C_mostUrgent : ByteArray := prog_1_method_28_code
def y_C_mostUrgent : MethodName := ⟨R_C, "mostUrgent", "()I"⟩
def w_C_mostUrgent : List Cond := Cond.code y_C_mostUrgent b_C_mostUrgent 3 (some .int) :: TT
abbrev b_C_delayMoreUrgentThan : ByteArray := prog_1_method_29_code
def y_C_delayMoreUrgentThan : MethodName := ⟨R_C, "delayMoreUrgentThan", "(II)V"⟩
def w_C_delayMoreUrgentThan : List Cond := Cond.code y_C_delayMoreUrgentThan b_C_delayMoreUrgentThan 4 none :: TT
abbrev b_C_longestBlockingAt : ByteArray := prog_1_method_30_code
def y_C_longestBlockingAt : MethodName := ⟨R_C, "longestBlockingAt", "(I)I"⟩
def w_C_longestBlockingAt : List Cond := Cond.code y_C_longestBlockingAt b_C_longestBlockingAt 4 (some .int) :: TT
abbrev b_C_longestUseOfCeiling : ByteArray := prog_1_method_31_code
def y_C_longestUseOfCeiling : MethodName := ⟨R_C, "longestUseOfCeiling", "(LCeilingDispatch$Task;I)I"⟩
def w_C_longestUseOfCeiling : List Cond := Cond.code y_C_longestUseOfCeiling b_C_longestUseOfCeiling 5 (some .int) :: TT
abbrev b_C_demandOfOthers : ByteArray := prog_1_method_32_code
def y_C_demandOfOthers : MethodName := ⟨R_C, "demandOfOthers", "(II)I"⟩
def w_C_demandOfOthers : List Cond := Cond.code y_C_demandOfOthers b_C_demandOfOthers 5 (some .int) :: TT
abbrev b_T_init : ByteArray := prog_3_method_1_code
def y_T_init : MethodName := ⟨R_T, "<init>", "()V"⟩
def w_T_init : List Cond := Cond.code y_T_init b_T_init 1 none :: TT
abbrev b_T_isDeclared : ByteArray := prog_3_method_2_code
def y_T_isDeclared : MethodName := ⟨R_T, "isDeclared", "()Z"⟩
def w_T_isDeclared : List Cond := Cond.code y_T_isDeclared b_T_isDeclared 1 (some .boolean) :: TT
abbrev b_T_isUserOf : ByteArray := prog_3_method_3_code
def y_T_isUserOf : MethodName := ⟨R_T, "isUserOf", "(I)Z"⟩
def w_T_isUserOf : List Cond := Cond.code y_T_isUserOf b_T_isUserOf 2 (some .boolean) :: TT
abbrev b_T_makeReady : ByteArray := prog_3_method_4_code
def y_T_makeReady : MethodName := ⟨R_T, "makeReady", "(I)V"⟩
def w_T_makeReady : List Cond := Cond.code y_T_makeReady b_T_makeReady 2 none :: TT
abbrev b_T_goesBefore : ByteArray := prog_3_method_5_code
def y_T_goesBefore : MethodName := ⟨R_T, "goesBefore", "(LCeilingDispatch$Task;)Z"⟩
def w_T_goesBefore : List Cond := Cond.code y_T_goesBefore b_T_goesBefore 2 (some .boolean) :: TT
abbrev b_T_demandIn : ByteArray := prog_3_method_6_code
def y_T_demandIn : MethodName := ⟨R_T, "demandIn", "(I)I"⟩
def w_T_demandIn : List Cond := Cond.code y_T_demandIn b_T_demandIn 2 (some .int) :: TT
abbrev b_H_init : ByteArray := prog_4_method_1_code
def y_H_init : MethodName := ⟨R_H, "<init>", "()V"⟩
def w_H_init : List Cond := Cond.code y_H_init b_H_init 1 none :: TT
abbrev b_N_init : ByteArray := prog_2_method_1_code
def y_N_init : MethodName := ⟨R_N, "<init>", "()V"⟩
def w_N_init : List Cond := Cond.code y_N_init b_N_init 1 none :: TT
abbrev b_N_write : ByteArray := prog_2_method_2_code
def y_N_write : MethodName := ⟨R_N, "write", "(IIII)V"⟩
def w_N_write : List Cond := Cond.code y_N_write b_N_write 5 none :: TT
abbrev b_N_fromLatest : ByteArray := prog_2_method_3_code
def y_N_fromLatest : MethodName := ⟨R_N, "fromLatest", "(I)I"⟩
def w_N_fromLatest : List Cond := Cond.code y_N_fromLatest b_N_fromLatest 2 (some .int) :: TT
abbrev b_M_init : ByteArray := prog_6_method_1_code
def y_M_init : MethodName := ⟨R_M, "<init>", "()V"⟩
def w_M_init : List Cond := Cond.code y_M_init b_M_init 2 none :: TT
abbrev b_M_thrown : ByteArray := prog_6_method_2_code
def y_M_thrown : MethodName := ⟨R_M, "thrown", "()I"⟩
def w_M_thrown : List Cond := Cond.code y_M_thrown b_M_thrown 1 (some .int) :: TT
abbrev b_M_refuses : ByteArray := prog_6_method_3_code
def y_M_refuses : MethodName := ⟨R_M, "refuses", "(ZZ)Z"⟩
def w_M_refuses : List Cond := Cond.code y_M_refuses b_M_refuses 3 (some .boolean) :: TT
abbrev b_M_isTask : ByteArray := prog_6_method_4_code
def y_M_isTask : MethodName := ⟨R_M, "isTask", "(I)Z"⟩
def w_M_isTask : List Cond := Cond.code y_M_isTask b_M_isTask 1 (some .boolean) :: TT
abbrev b_M_isThing : ByteArray := prog_6_method_5_code
def y_M_isThing : MethodName := ⟨R_M, "isThing", "(I)Z"⟩
def w_M_isThing : List Cond := Cond.code y_M_isThing b_M_isThing 1 (some .boolean) :: TT
abbrev b_M_isDeclared : ByteArray := prog_6_method_6_code
def y_M_isDeclared : MethodName := ⟨R_M, "isDeclared", "(I)Z"⟩
def w_M_isDeclared : List Cond := Cond.code y_M_isDeclared b_M_isDeclared 2 (some .boolean) :: TT
abbrev b_M_isReady : ByteArray := prog_6_method_7_code
def y_M_isReady : MethodName := ⟨R_M, "isReady", "(I)Z"⟩
def w_M_isReady : List Cond := Cond.code y_M_isReady b_M_isReady 2 (some .boolean) :: TT
abbrev b_M_declare : ByteArray := prog_6_method_8_code
def y_M_declare : MethodName := ⟨R_M, "declare", "(IIII)V"⟩
def w_M_declare : List Cond := Cond.code y_M_declare b_M_declare 6 none :: TT
abbrev b_M_mayUse : ByteArray := prog_6_method_9_code
def y_M_mayUse : MethodName := ⟨R_M, "mayUse", "(III)V"⟩
def w_M_mayUse : List Cond := Cond.code y_M_mayUse b_M_mayUse 4 none :: TT
abbrev b_M_seal : ByteArray := prog_6_method_10_code
def y_M_seal : MethodName := ⟨R_M, "seal", "()I"⟩
def w_M_seal : List Cond := Cond.code y_M_seal b_M_seal 3 (some .int) :: TT
abbrev b_M_isFirst : ByteArray := prog_6_method_11_code
def y_M_isFirst : MethodName := ⟨R_M, "isFirst", "(II)Z"⟩
def w_M_isFirst : List Cond := Cond.code y_M_isFirst b_M_isFirst 3 (some .boolean) :: TT
abbrev b_M_runner : ByteArray := prog_6_method_12_code
def y_M_runner : MethodName := ⟨R_M, "runner", "()I"⟩
def w_M_runner : List Cond := Cond.code y_M_runner b_M_runner 3 (some .int) :: TT
abbrev b_M_add : ByteArray := prog_6_method_13_code
def y_M_add : MethodName := ⟨R_M, "add", "(III)V"⟩
def w_M_add : List Cond := Cond.code y_M_add b_M_add 4 none :: TT
abbrev b_M_tell : ByteArray := prog_6_method_14_code
def y_M_tell : MethodName := ⟨R_M, "tell", "(IIII)V"⟩
def w_M_tell : List Cond := Cond.code y_M_tell b_M_tell 6 none :: TT
abbrev b_M_release : ByteArray := prog_6_method_15_code
def y_M_release : MethodName := ⟨R_M, "release", "(I)I"⟩
def w_M_release : List Cond := Cond.code y_M_release b_M_release 3 (some .int) :: TT
abbrev b_M_top : ByteArray := prog_6_method_16_code
def y_M_top : MethodName := ⟨R_M, "top", "(I)I"⟩
def w_M_top : List Cond := Cond.code y_M_top b_M_top 4 (some .int) :: TT
abbrev b_M_take : ByteArray := prog_6_method_17_code
def y_M_take : MethodName := ⟨R_M, "take", "(I)I"⟩
def w_M_take : List Cond := Cond.code y_M_take b_M_take 6 (some .int) :: TT
abbrev b_M_latest : ByteArray := prog_6_method_18_code
def y_M_latest : MethodName := ⟨R_M, "latest", "(I)I"⟩
def w_M_latest : List Cond := Cond.code y_M_latest b_M_latest 4 (some .int) :: TT
abbrev b_M_give : ByteArray := prog_6_method_19_code
def y_M_give : MethodName := ⟨R_M, "give", "(I)I"⟩
def w_M_give : List Cond := Cond.code y_M_give b_M_give 3 (some .int) :: TT
abbrev b_M_finish : ByteArray := prog_6_method_20_code
def y_M_finish : MethodName := ⟨R_M, "finish", "()I"⟩
def w_M_finish : List Cond := Cond.code y_M_finish b_M_finish 2 (some .int) :: TT
abbrev b_M_pass : ByteArray := prog_6_method_21_code
def y_M_pass : MethodName := ⟨R_M, "pass", "(I)I"⟩
def w_M_pass : List Cond := Cond.code y_M_pass b_M_pass 4 (some .int) :: TT
abbrev b_M_running : ByteArray := prog_6_method_22_code
def y_M_running : MethodName := ⟨R_M, "running", "()I"⟩
def w_M_running : List Cond := Cond.code y_M_running b_M_running 1 (some .int) :: TT
abbrev b_M_priority : ByteArray := prog_6_method_23_code
def y_M_priority : MethodName := ⟨R_M, "priority", "(I)I"⟩
def w_M_priority : List Cond := Cond.code y_M_priority b_M_priority 2 (some .int) :: TT
abbrev b_M_place : ByteArray := prog_6_method_24_code
def y_M_place : MethodName := ⟨R_M, "place", "(I)I"⟩
def w_M_place : List Cond := Cond.code y_M_place b_M_place 4 (some .int) :: TT
abbrev b_M_ceiling : ByteArray := prog_6_method_25_code
def y_M_ceiling : MethodName := ⟨R_M, "ceiling", "(I)I"⟩
def w_M_ceiling : List Cond := Cond.code y_M_ceiling b_M_ceiling 2 (some .int) :: TT
abbrev b_M_holder : ByteArray := prog_6_method_26_code
def y_M_holder : MethodName := ⟨R_M, "holder", "(I)I"⟩
def w_M_holder : List Cond := Cond.code y_M_holder b_M_holder 2 (some .int) :: TT
abbrev b_M_spent : ByteArray := prog_6_method_27_code
def y_M_spent : MethodName := ⟨R_M, "spent", "(II)I"⟩
def w_M_spent : List Cond := Cond.code y_M_spent b_M_spent 3 (some .int) :: TT
abbrev b_M_longest : ByteArray := prog_6_method_28_code
def y_M_longest : MethodName := ⟨R_M, "longest", "(I)I"⟩
def w_M_longest : List Cond := Cond.code y_M_longest b_M_longest 5 (some .int) :: TT
abbrev b_M_blocking : ByteArray := prog_6_method_29_code
def y_M_blocking : MethodName := ⟨R_M, "blocking", "(I)I"⟩
def w_M_blocking : List Cond := Cond.code y_M_blocking b_M_blocking 2 (some .int) :: TT
abbrev b_M_load : ByteArray := prog_6_method_30_code
def y_M_load : MethodName := ⟨R_M, "load", "(II)I"⟩
def w_M_load : List Cond := Cond.code y_M_load b_M_load 6 (some .int) :: TT
abbrev b_M_response : ByteArray := prog_6_method_31_code
def y_M_response : MethodName := ⟨R_M, "response", "(I)I"⟩
def w_M_response : List Cond := Cond.code y_M_response b_M_response 3 (some .int) :: TT
abbrev b_M_notes : ByteArray := prog_6_method_32_code
def y_M_notes : MethodName := ⟨R_M, "notes", "()I"⟩
def w_M_notes : List Cond := Cond.code y_M_notes b_M_notes 1 (some .int) :: TT
abbrev b_M_note : ByteArray := prog_6_method_33_code
def y_M_note : MethodName := ⟨R_M, "note", "(I)I"⟩
def w_M_note : List Cond := Cond.code y_M_note b_M_note 2 (some .int) :: TT
abbrev b_L_declare : ByteArray := method_3_code
def y_L_declare : MethodName := ⟨R_L, "declare", "(LCeilingDispatch;IIII)I"⟩
def w_L_declare : List Cond := Cond.codeWith y_L_declare b_L_declare 6 (some .int) [(0, 9, 12, 13), (0, 9, 16, 15)] :: TT
abbrev b_L_mayUse : ByteArray := method_4_code
def y_L_mayUse : MethodName := ⟨R_L, "mayUse", "(LCeilingDispatch;III)I"⟩
def w_L_mayUse : List Cond := Cond.codeWith y_L_mayUse b_L_mayUse 5 (some .int) [(0, 7, 10, 13), (0, 7, 14, 15)] :: TT
abbrev b_L_seal : ByteArray := method_5_code
def y_L_seal : MethodName := ⟨R_L, "seal", "(LCeilingDispatch;[J)I"⟩
def w_L_seal : List Cond := Cond.codeWith y_L_seal b_L_seal 3 (some .int) [(0, 8, 11, 13)] :: TT
abbrev b_L_release : ByteArray := method_6_code
def y_L_release : MethodName := ⟨R_L, "release", "(LCeilingDispatch;I[J)I"⟩
def w_L_release : List Cond := Cond.codeWith y_L_release b_L_release 4 (some .int) [(0, 9, 12, 13), (0, 9, 15, 15)] :: TT
abbrev b_L_take : ByteArray := method_7_code
def y_L_take : MethodName := ⟨R_L, "take", "(LCeilingDispatch;I[J)I"⟩
def w_L_take : List Cond := Cond.codeWith y_L_take b_L_take 4 (some .int) [(0, 9, 12, 13), (0, 9, 15, 15)] :: TT
abbrev b_L_give : ByteArray := method_8_code
def y_L_give : MethodName := ⟨R_L, "give", "(LCeilingDispatch;I[J)I"⟩
def w_L_give : List Cond := Cond.codeWith y_L_give b_L_give 4 (some .int) [(0, 9, 12, 13), (0, 9, 15, 15)] :: TT
abbrev b_L_finish : ByteArray := method_9_code
def y_L_finish : MethodName := ⟨R_L, "finish", "(LCeilingDispatch;[J)I"⟩
def w_L_finish : List Cond := Cond.codeWith y_L_finish b_L_finish 3 (some .int) [(0, 8, 11, 13)] :: TT
abbrev b_L_pass : ByteArray := method_10_code
def y_L_pass : MethodName := ⟨R_L, "pass", "(LCeilingDispatch;I[J)I"⟩
def w_L_pass : List Cond := Cond.codeWith y_L_pass b_L_pass 4 (some .int) [(0, 9, 12, 15)] :: TT
abbrev b_L_law : ByteArray := code
def y_L_law : MethodName := ⟨R_L, "law", "([I)Z"⟩
abbrev b_J_floorMod : ByteArray := prog_10_method_50_code
def y_J_floorMod : MethodName := ⟨R_J, "floorMod", "(II)I"⟩
def w_J_floorMod : List Cond := Cond.code y_J_floorMod b_J_floorMod 3 (some .int) :: TT
abbrev y_J_max : MethodName := Lib.Math.max.name
def xS9 : List (Nat × String) := [(50, "sealed, or the task is declared"), (61, "no such task, base, cost or period"), (73, "sealed"), (77, "the task is not declared, or no such thing or length"), (97, "not sealed, or the task is ready"), (99, "the task is not declared"), (112, "not sealed, no task runs, or the thing is held"), (117, "no such thing, or the task that runs may not use it"), (140, "no task runs"), (142, "not the thing that the task that runs took last"), (144, "no task runs, or it holds something"), (152, "the clock can not go on by that")]
def xn9 : List String := ["java/lang/RuntimeException", "java/lang/Exception"]
theorem xgd_52_48 : ∀ w ∈ Cond.classLink R_C 48 "java/lang/IllegalStateException" :: Cond.initialized "java/lang/IllegalStateException" :: vx_atS R_C 52 "java/lang/IllegalStateException" xn9, vx_ot w = true := by
  exact List.all_eq_true.mp (by decide +kernel)
theorem xgd_63_59 : ∀ w ∈ Cond.classLink R_C 59 "java/lang/IllegalArgumentException" :: Cond.initialized "java/lang/IllegalArgumentException" :: vx_atS R_C 63 "java/lang/IllegalArgumentException" xn9, vx_ot w = true := by
  exact List.all_eq_true.mp (by decide +kernel)
def xT9 : List Cond := [.declares ⟨"java/lang/RuntimeException", "<init>", "(Ljava/lang/String;)V"⟩, .declares ⟨"java/lang/Exception", "<init>", "(Ljava/lang/String;)V"⟩, .declares ⟨"java/lang/Throwable", "<init>", "(Ljava/lang/String;)V"⟩, .castable "java/lang/IllegalStateException" "java/lang/IllegalStateException", .castable "java/lang/IllegalArgumentException" "java/lang/IllegalArgumentException"]
theorem xat_52 : ∀ w ∈ vx_atS R_C 52 "java/lang/IllegalStateException" xn9, w ∈ TT ∨ w ∈ xT9 := by
  have h : (vx_atS R_C 52 "java/lang/IllegalStateException" xn9).all (fun w => (lw_tbl.contains w && goodWord w) || xT9.contains w) = true := by decide +kernel
  intro w hw
  have h1 := List.all_eq_true.mp h w hw
  rw [Bool.or_eq_true, Bool.and_eq_true] at h1
  exact h1.elim (fun z => Or.inl (List.mem_filter.mpr ⟨List.contains_iff_mem.mp z.1, z.2⟩)) (fun z => Or.inr (List.contains_iff_mem.mp z))
theorem xat_63 : ∀ w ∈ vx_atS R_C 63 "java/lang/IllegalArgumentException" xn9, w ∈ TT ∨ w ∈ xT9 := by
  have h : (vx_atS R_C 63 "java/lang/IllegalArgumentException" xn9).all (fun w => (lw_tbl.contains w && goodWord w) || xT9.contains w) = true := by decide +kernel
  intro w hw
  have h1 := List.all_eq_true.mp h w hw
  rw [Bool.or_eq_true, Bool.and_eq_true] at h1
  exact h1.elim (fun z => Or.inl (List.mem_filter.mpr ⟨List.contains_iff_mem.mp z.1, z.2⟩)) (fun z => Or.inr (List.contains_iff_mem.mp z))
theorem xT9_on : ∀ w ∈ xT9, w.onTables = true := by decide +kernel
theorem xT9_in : ∀ w ∈ xT9, w ∈ lw_tbl := by
  have h : xT9.all (fun w => lw_tbl.contains w) = true := by decide +kernel
  exact fun w hw => List.contains_iff_mem.mp (List.all_eq_true.mp h w hw)
-- words
theorem k_0 : Cond.selects R_C y_C_isDeclared y_C_isDeclared ∈ TT := tt_in 0 (by decide +kernel) (by decide +kernel)
theorem k_1 : Cond.selects R_C y_C_isReady y_C_isReady ∈ TT := tt_in 1 (by decide +kernel) (by decide +kernel)
theorem k_2 : Cond.selects R_C y_C_longestBlockingAt y_C_longestBlockingAt ∈ TT := tt_in 2 (by decide +kernel) (by decide +kernel)
theorem k_3 : Cond.selects R_C y_C_longestUseOfCeiling y_C_longestUseOfCeiling ∈ TT := tt_in 3 (by decide +kernel) (by decide +kernel)
theorem k_4 : Cond.selects R_C y_C_demandOfOthers y_C_demandOfOthers ∈ TT := tt_in 4 (by decide +kernel) (by decide +kernel)
theorem k_6 : Cond.selects R_C y_C_greatestBaseOfUsers y_C_greatestBaseOfUsers ∈ TT := tt_in 6 (by decide +kernel) (by decide +kernel)
theorem k_7 : Cond.selects R_C y_C_countDeclared y_C_countDeclared ∈ TT := tt_in 7 (by decide +kernel) (by decide +kernel)
theorem k_8 : Cond.selects R_C y_C_happened y_C_happened ∈ TT := tt_in 8 (by decide +kernel) (by decide +kernel)
theorem k_9 : Cond.selects R_C y_C_mostUrgent y_C_mostUrgent ∈ TT := tt_in 9 (by decide +kernel) (by decide +kernel)
theorem k_10 : Cond.selects R_C y_C_isHeld y_C_isHeld ∈ TT := tt_in 10 (by decide +kernel) (by decide +kernel)
theorem k_11 : Cond.selects R_C y_C_delayMoreUrgentThan y_C_delayMoreUrgentThan ∈ TT := tt_in 11 (by decide +kernel) (by decide +kernel)
theorem k_12 : Cond.selects R_M y_M_isDeclared y_M_isDeclared ∈ TT := tt_in 12 (by decide +kernel) (by decide +kernel)
theorem k_13 : Cond.selects R_M y_M_refuses y_M_refuses ∈ TT := tt_in 13 (by decide +kernel) (by decide +kernel)
theorem k_14 : Cond.selects R_M y_M_isReady y_M_isReady ∈ TT := tt_in 14 (by decide +kernel) (by decide +kernel)
theorem k_15 : Cond.selects R_M y_M_runner y_M_runner ∈ TT := tt_in 15 (by decide +kernel) (by decide +kernel)
theorem k_16 : Cond.selects R_M y_M_isFirst y_M_isFirst ∈ TT := tt_in 16 (by decide +kernel) (by decide +kernel)
theorem k_17 : Cond.selects R_M y_M_tell y_M_tell ∈ TT := tt_in 17 (by decide +kernel) (by decide +kernel)
theorem k_18 : Cond.selects R_M y_M_add y_M_add ∈ TT := tt_in 18 (by decide +kernel) (by decide +kernel)
theorem k_19 : Cond.selects R_M y_M_top y_M_top ∈ TT := tt_in 19 (by decide +kernel) (by decide +kernel)
theorem k_20 : Cond.selects R_M y_M_latest y_M_latest ∈ TT := tt_in 20 (by decide +kernel) (by decide +kernel)
theorem k_21 : Cond.selects R_M y_M_longest y_M_longest ∈ TT := tt_in 21 (by decide +kernel) (by decide +kernel)
theorem k_22 : Cond.selects R_M y_M_load y_M_load ∈ TT := tt_in 22 (by decide +kernel) (by decide +kernel)
theorem k_23 : Cond.initialized R_L ∈ TT := tt_in 23 (by decide +kernel) (by decide +kernel)
theorem k_24 : Cond.initialized R_C ∈ TT := tt_in 24 (by decide +kernel) (by decide +kernel)
theorem k_25 : Cond.initialized R_N ∈ TT := tt_in 25 (by decide +kernel) (by decide +kernel)
theorem k_26 : Cond.initialized R_T ∈ TT := tt_in 26 (by decide +kernel) (by decide +kernel)
theorem k_27 : Cond.initialized R_H ∈ TT := tt_in 27 (by decide +kernel) (by decide +kernel)
theorem k_28 : Cond.initialized R_M ∈ TT := tt_in 28 (by decide +kernel) (by decide +kernel)
theorem k_32 : Cond.initialized "java/lang/IllegalStateException" ∈ TT := tt_in 32 (by decide +kernel) (by decide +kernel)
theorem k_33 : Cond.initialized "java/lang/IllegalArgumentException" ∈ TT := tt_in 33 (by decide +kernel) (by decide +kernel)
theorem k_34 : Cond.initialized R_J ∈ TT := tt_in 34 (by decide +kernel) (by decide +kernel)
theorem k_35 : Cond.classLink R_L 8 R_C ∈ TT := tt_in 35 (by decide +kernel) (by decide +kernel)
theorem k_36 : Cond.instantiable R_C 7 ∈ TT := tt_in 36 (by decide +kernel) (by decide +kernel)
theorem k_37 : Cond.methodLink R_L 41 y_C_init ∈ TT := tt_in 37 (by decide +kernel) (by decide +kernel)
theorem k_38 : Cond.instanceMethod y_C_init ∈ TT := tt_in 38 (by decide +kernel) (by decide +kernel)
theorem k_39 : Cond.code y_C_init b_C_init 2 none ∈ TT := tt_in 39 (by decide +kernel) (by decide +kernel)
theorem k_40 : Cond.methodLink R_C 1 objectInit ∈ TT := tt_in 40 (by decide +kernel) (by decide +kernel)
theorem k_41 : Cond.instanceMethod objectInit ∈ TT := tt_in 41 (by decide +kernel) (by decide +kernel)
theorem k_42 : Cond.code Lib.objectInit ⟨#[0xb1]⟩ 1 none ∈ TT := tt_in 42 (by decide +kernel) (by decide +kernel)
theorem k_43 : Cond.classLink R_C 9 R_T ∈ TT := tt_in 43 (by decide +kernel) (by decide +kernel)
theorem k_45 : Cond.classLink R_C 15 R_H ∈ TT := tt_in 45 (by decide +kernel) (by decide +kernel)
theorem k_47 : Cond.classLink R_C 21 R_N ∈ TT := tt_in 47 (by decide +kernel) (by decide +kernel)
theorem k_48 : Cond.instantiable R_N 2 ∈ TT := tt_in 48 (by decide +kernel) (by decide +kernel)
theorem k_50 : Cond.instanceMethod y_N_init ∈ TT := tt_in 50 (by decide +kernel) (by decide +kernel)
theorem k_51 : Cond.code y_N_init b_N_init 1 none ∈ TT := tt_in 51 (by decide +kernel) (by decide +kernel)
theorem k_52 : Cond.methodLink R_N 3 objectInit ∈ TT := tt_in 52 (by decide +kernel) (by decide +kernel)
theorem k_53 : Cond.fieldLink R_N 9 "CeilingDispatch$NoteBook" "kept" "[I" ∈ TT := tt_in 53 (by decide +kernel) (by decide +kernel)
theorem k_54 : Cond.fieldLink R_N 15 "CeilingDispatch$NoteBook" "made" "I" ∈ TT := tt_in 54 (by decide +kernel) (by decide +kernel)
theorem k_61 : Cond.arrayClass .int ∈ TT := tt_in 61 (by decide +kernel) (by decide +kernel)
theorem k_62 : Cond.instantiable R_T 10 ∈ TT := tt_in 62 (by decide +kernel) (by decide +kernel)
theorem k_64 : Cond.instanceMethod y_T_init ∈ TT := tt_in 64 (by decide +kernel) (by decide +kernel)
theorem k_65 : Cond.code y_T_init b_T_init 1 none ∈ TT := tt_in 65 (by decide +kernel) (by decide +kernel)
theorem k_66 : Cond.methodLink R_T 3 objectInit ∈ TT := tt_in 66 (by decide +kernel) (by decide +kernel)
theorem k_67 : Cond.fieldLink R_T 9 "CeilingDispatch$Task" "base" "I" ∈ TT := tt_in 67 (by decide +kernel) (by decide +kernel)
theorem k_69 : Cond.fieldLink R_T 15 "CeilingDispatch$Task" "cost" "I" ∈ TT := tt_in 69 (by decide +kernel) (by decide +kernel)
theorem k_71 : Cond.fieldLink R_T 18 "CeilingDispatch$Task" "period" "I" ∈ TT := tt_in 71 (by decide +kernel) (by decide +kernel)
theorem k_73 : Cond.fieldLink R_T 21 "CeilingDispatch$Task" "lengths" "[I" ∈ TT := tt_in 73 (by decide +kernel) (by decide +kernel)
theorem k_75 : Cond.fieldLink R_T 25 "CeilingDispatch$Task" "ready" "Z" ∈ TT := tt_in 75 (by decide +kernel) (by decide +kernel)
theorem k_77 : Cond.fieldLink R_T 29 "CeilingDispatch$Task" "priority" "I" ∈ TT := tt_in 77 (by decide +kernel) (by decide +kernel)
theorem k_79 : Cond.fieldLink R_T 32 "CeilingDispatch$Task" "turn" "I" ∈ TT := tt_in 79 (by decide +kernel) (by decide +kernel)
theorem k_80 : Cond.fieldLink R_T 35 "CeilingDispatch$Task" "lastTaken" "I" ∈ TT := tt_in 80 (by decide +kernel) (by decide +kernel)
theorem k_82 : Cond.fieldLink R_T 38 "CeilingDispatch$Task" "work" "I" ∈ TT := tt_in 82 (by decide +kernel) (by decide +kernel)
theorem k_84 : Cond.fieldLink R_T 41 "CeilingDispatch$Task" "delay" "I" ∈ TT := tt_in 84 (by decide +kernel) (by decide +kernel)
theorem k_107 : Cond.instantiable R_H 4 ∈ TT := tt_in 107 (by decide +kernel) (by decide +kernel)
theorem k_109 : Cond.instanceMethod y_H_init ∈ TT := tt_in 109 (by decide +kernel) (by decide +kernel)
theorem k_110 : Cond.code y_H_init b_H_init 1 none ∈ TT := tt_in 110 (by decide +kernel) (by decide +kernel)
theorem k_111 : Cond.methodLink R_H 3 objectInit ∈ TT := tt_in 111 (by decide +kernel) (by decide +kernel)
theorem k_112 : Cond.fieldLink R_H 9 "CeilingDispatch$Thing" "ceiling" "I" ∈ TT := tt_in 112 (by decide +kernel) (by decide +kernel)
theorem k_114 : Cond.fieldLink R_H 15 "CeilingDispatch$Thing" "holder" "I" ∈ TT := tt_in 114 (by decide +kernel) (by decide +kernel)
theorem k_116 : Cond.fieldLink R_H 18 "CeilingDispatch$Thing" "takenBefore" "I" ∈ TT := tt_in 116 (by decide +kernel) (by decide +kernel)
theorem k_118 : Cond.fieldLink R_H 21 "CeilingDispatch$Thing" "priorityBefore" "I" ∈ TT := tt_in 118 (by decide +kernel) (by decide +kernel)
theorem k_129 : Cond.fieldLink R_C 11 "CeilingDispatch" "tasks" "[LCeilingDispatch$Task;" ∈ TT := tt_in 129 (by decide +kernel) (by decide +kernel)
theorem k_130 : Cond.fieldLink R_C 17 "CeilingDispatch" "things" "[LCeilingDispatch$Thing;" ∈ TT := tt_in 130 (by decide +kernel) (by decide +kernel)
theorem k_131 : Cond.fieldLink R_C 24 "CeilingDispatch" "book" "LCeilingDispatch$NoteBook;" ∈ TT := tt_in 131 (by decide +kernel) (by decide +kernel)
theorem k_132 : Cond.fieldLink R_C 28 "CeilingDispatch" "sealed" "Z" ∈ TT := tt_in 132 (by decide +kernel) (by decide +kernel)
theorem k_133 : Cond.fieldLink R_C 32 "CeilingDispatch" "clock" "I" ∈ TT := tt_in 133 (by decide +kernel) (by decide +kernel)
theorem k_134 : Cond.fieldLink R_C 36 "CeilingDispatch" "releases" "I" ∈ TT := tt_in 134 (by decide +kernel) (by decide +kernel)
theorem k_135 : Cond.fieldLink R_C 39 "CeilingDispatch" "runner" "I" ∈ TT := tt_in 135 (by decide +kernel) (by decide +kernel)
theorem k_151 : Cond.methodLink R_L 78 y_C_running ∈ TT := tt_in 151 (by decide +kernel) (by decide +kernel)
theorem k_152 : Cond.instanceMethod y_C_running ∈ TT := tt_in 152 (by decide +kernel) (by decide +kernel)
theorem k_153 : Cond.selects R_C y_C_running y_C_running ∈ TT := tt_in 153 (by decide +kernel) (by decide +kernel)
theorem k_154 : Cond.code y_C_running b_C_running 1 (some .int) ∈ TT := tt_in 154 (by decide +kernel) (by decide +kernel)
theorem k_155 : Cond.methodLink R_L 82 y_C_priority ∈ TT := tt_in 155 (by decide +kernel) (by decide +kernel)
theorem k_156 : Cond.instanceMethod y_C_priority ∈ TT := tt_in 156 (by decide +kernel) (by decide +kernel)
theorem k_157 : Cond.selects R_C y_C_priority y_C_priority ∈ TT := tt_in 157 (by decide +kernel) (by decide +kernel)
theorem k_158 : Cond.code y_C_priority b_C_priority 2 (some .int) ∈ TT := tt_in 158 (by decide +kernel) (by decide +kernel)
theorem k_159 : Cond.methodLink R_C 44 y_C_isDeclared ∈ TT := tt_in 159 (by decide +kernel) (by decide +kernel)
theorem k_161 : Cond.instanceMethod y_C_isDeclared ∈ TT := tt_in 161 (by decide +kernel) (by decide +kernel)
theorem k_162 : Cond.code y_C_isDeclared b_C_isDeclared 2 (some .boolean) ∈ TT := tt_in 162 (by decide +kernel) (by decide +kernel)
theorem k_163 : Cond.methodLink R_C 55 y_C_isIn ∈ TT := tt_in 163 (by decide +kernel) (by decide +kernel)
theorem k_164 : Cond.static y_C_isIn ∈ TT := tt_in 164 (by decide +kernel) (by decide +kernel)
theorem k_165 : Cond.code y_C_isIn b_C_isIn 3 (some .boolean) ∈ TT := tt_in 165 (by decide +kernel) (by decide +kernel)
theorem k_166 : Cond.methodLink R_C 177 y_T_isDeclared ∈ TT := tt_in 166 (by decide +kernel) (by decide +kernel)
theorem k_167 : Cond.instanceMethod y_T_isDeclared ∈ TT := tt_in 167 (by decide +kernel) (by decide +kernel)
theorem k_168 : Cond.selects R_T y_T_isDeclared y_T_isDeclared ∈ TT := tt_in 168 (by decide +kernel) (by decide +kernel)
theorem k_169 : Cond.code y_T_isDeclared b_T_isDeclared 1 (some .boolean) ∈ TT := tt_in 169 (by decide +kernel) (by decide +kernel)
theorem k_170 : Cond.methodLink R_L 86 y_C_place ∈ TT := tt_in 170 (by decide +kernel) (by decide +kernel)
theorem k_171 : Cond.instanceMethod y_C_place ∈ TT := tt_in 171 (by decide +kernel) (by decide +kernel)
theorem k_172 : Cond.selects R_C y_C_place y_C_place ∈ TT := tt_in 172 (by decide +kernel) (by decide +kernel)
theorem k_173 : Cond.code y_C_place b_C_place 4 (some .int) ∈ TT := tt_in 173 (by decide +kernel) (by decide +kernel)
theorem k_174 : Cond.methodLink R_C 94 y_C_isReady ∈ TT := tt_in 174 (by decide +kernel) (by decide +kernel)
theorem k_176 : Cond.instanceMethod y_C_isReady ∈ TT := tt_in 176 (by decide +kernel) (by decide +kernel)
theorem k_177 : Cond.code y_C_isReady b_C_isReady 2 (some .boolean) ∈ TT := tt_in 177 (by decide +kernel) (by decide +kernel)
theorem k_178 : Cond.methodLink R_C 158 y_T_goesBefore ∈ TT := tt_in 178 (by decide +kernel) (by decide +kernel)
theorem k_179 : Cond.instanceMethod y_T_goesBefore ∈ TT := tt_in 179 (by decide +kernel) (by decide +kernel)
theorem k_180 : Cond.selects R_T y_T_goesBefore y_T_goesBefore ∈ TT := tt_in 180 (by decide +kernel) (by decide +kernel)
theorem k_181 : Cond.code y_T_goesBefore b_T_goesBefore 2 (some .boolean) ∈ TT := tt_in 181 (by decide +kernel) (by decide +kernel)
theorem k_182 : Cond.methodLink R_L 90 y_C_ceiling ∈ TT := tt_in 182 (by decide +kernel) (by decide +kernel)
theorem k_183 : Cond.instanceMethod y_C_ceiling ∈ TT := tt_in 183 (by decide +kernel) (by decide +kernel)
theorem k_184 : Cond.selects R_C y_C_ceiling y_C_ceiling ∈ TT := tt_in 184 (by decide +kernel) (by decide +kernel)
theorem k_185 : Cond.code y_C_ceiling b_C_ceiling 2 (some .int) ∈ TT := tt_in 185 (by decide +kernel) (by decide +kernel)
theorem k_186 : Cond.methodLink R_C 74 y_C_isThing ∈ TT := tt_in 186 (by decide +kernel) (by decide +kernel)
theorem k_187 : Cond.static y_C_isThing ∈ TT := tt_in 187 (by decide +kernel) (by decide +kernel)
theorem k_188 : Cond.code y_C_isThing b_C_isThing 1 (some .boolean) ∈ TT := tt_in 188 (by decide +kernel) (by decide +kernel)
theorem k_189 : Cond.methodLink R_L 94 y_C_holder ∈ TT := tt_in 189 (by decide +kernel) (by decide +kernel)
theorem k_190 : Cond.instanceMethod y_C_holder ∈ TT := tt_in 190 (by decide +kernel) (by decide +kernel)
theorem k_191 : Cond.selects R_C y_C_holder y_C_holder ∈ TT := tt_in 191 (by decide +kernel) (by decide +kernel)
theorem k_192 : Cond.code y_C_holder b_C_holder 2 (some .int) ∈ TT := tt_in 192 (by decide +kernel) (by decide +kernel)
theorem k_193 : Cond.methodLink R_L 98 y_C_spent ∈ TT := tt_in 193 (by decide +kernel) (by decide +kernel)
theorem k_194 : Cond.instanceMethod y_C_spent ∈ TT := tt_in 194 (by decide +kernel) (by decide +kernel)
theorem k_195 : Cond.selects R_C y_C_spent y_C_spent ∈ TT := tt_in 195 (by decide +kernel) (by decide +kernel)
theorem k_196 : Cond.code y_C_spent b_C_spent 3 (some .int) ∈ TT := tt_in 196 (by decide +kernel) (by decide +kernel)
theorem k_197 : Cond.methodLink R_L 103 y_C_blocking ∈ TT := tt_in 197 (by decide +kernel) (by decide +kernel)
theorem k_198 : Cond.instanceMethod y_C_blocking ∈ TT := tt_in 198 (by decide +kernel) (by decide +kernel)
theorem k_199 : Cond.selects R_C y_C_blocking y_C_blocking ∈ TT := tt_in 199 (by decide +kernel) (by decide +kernel)
theorem k_200 : Cond.code y_C_blocking b_C_blocking 2 (some .int) ∈ TT := tt_in 200 (by decide +kernel) (by decide +kernel)
theorem k_201 : Cond.methodLink R_C 165 y_C_longestBlockingAt ∈ TT := tt_in 201 (by decide +kernel) (by decide +kernel)
theorem k_203 : Cond.instanceMethod y_C_longestBlockingAt ∈ TT := tt_in 203 (by decide +kernel) (by decide +kernel)
theorem k_204 : Cond.code y_C_longestBlockingAt b_C_longestBlockingAt 4 (some .int) ∈ TT := tt_in 204 (by decide +kernel) (by decide +kernel)
theorem k_205 : Cond.methodLink R_C 187 y_C_longestUseOfCeiling ∈ TT := tt_in 205 (by decide +kernel) (by decide +kernel)
theorem k_207 : Cond.instanceMethod y_C_longestUseOfCeiling ∈ TT := tt_in 207 (by decide +kernel) (by decide +kernel)
theorem k_208 : Cond.code y_C_longestUseOfCeiling b_C_longestUseOfCeiling 5 (some .int) ∈ TT := tt_in 208 (by decide +kernel) (by decide +kernel)
theorem k_209 : Cond.methodLink R_C 134 y_J_max ∈ TT := tt_in 209 (by decide +kernel) (by decide +kernel)
theorem k_210 : Cond.static y_J_max ∈ TT := tt_in 210 (by decide +kernel) (by decide +kernel)
theorem k_211 : Cond.code Lib.Math.max.name Lib.Math.max.code 2 (some .int) ∈ TT := tt_in 211 (by decide +kernel) (by decide +kernel)
theorem k_212 : Cond.methodLink R_L 107 y_C_response ∈ TT := tt_in 212 (by decide +kernel) (by decide +kernel)
theorem k_213 : Cond.instanceMethod y_C_response ∈ TT := tt_in 213 (by decide +kernel) (by decide +kernel)
theorem k_214 : Cond.selects R_C y_C_response y_C_response ∈ TT := tt_in 214 (by decide +kernel) (by decide +kernel)
theorem k_215 : Cond.code y_C_response b_C_response 4 (some .int) ∈ TT := tt_in 215 (by decide +kernel) (by decide +kernel)
theorem k_216 : Cond.methodLink R_C 168 y_C_demandOfOthers ∈ TT := tt_in 216 (by decide +kernel) (by decide +kernel)
theorem k_218 : Cond.instanceMethod y_C_demandOfOthers ∈ TT := tt_in 218 (by decide +kernel) (by decide +kernel)
theorem k_219 : Cond.code y_C_demandOfOthers b_C_demandOfOthers 5 (some .int) ∈ TT := tt_in 219 (by decide +kernel) (by decide +kernel)
theorem k_220 : Cond.methodLink R_C 191 y_T_demandIn ∈ TT := tt_in 220 (by decide +kernel) (by decide +kernel)
theorem k_221 : Cond.instanceMethod y_T_demandIn ∈ TT := tt_in 221 (by decide +kernel) (by decide +kernel)
theorem k_222 : Cond.selects R_T y_T_demandIn y_T_demandIn ∈ TT := tt_in 222 (by decide +kernel) (by decide +kernel)
theorem k_223 : Cond.code y_T_demandIn b_T_demandIn 2 (some .int) ∈ TT := tt_in 223 (by decide +kernel) (by decide +kernel)
theorem k_224 : Cond.methodLink R_T 44 y_T_isDeclared ∈ TT := tt_in 224 (by decide +kernel) (by decide +kernel)
theorem k_225 : Cond.methodLink R_L 111 y_C_notes ∈ TT := tt_in 225 (by decide +kernel) (by decide +kernel)
theorem k_226 : Cond.instanceMethod y_C_notes ∈ TT := tt_in 226 (by decide +kernel) (by decide +kernel)
theorem k_227 : Cond.selects R_C y_C_notes y_C_notes ∈ TT := tt_in 227 (by decide +kernel) (by decide +kernel)
theorem k_228 : Cond.code y_C_notes b_C_notes 1 (some .int) ∈ TT := tt_in 228 (by decide +kernel) (by decide +kernel)
theorem k_229 : Cond.methodLink R_L 115 y_C_note ∈ TT := tt_in 229 (by decide +kernel) (by decide +kernel)
theorem k_230 : Cond.instanceMethod y_C_note ∈ TT := tt_in 230 (by decide +kernel) (by decide +kernel)
theorem k_231 : Cond.selects R_C y_C_note y_C_note ∈ TT := tt_in 231 (by decide +kernel) (by decide +kernel)
theorem k_232 : Cond.code y_C_note b_C_note 2 (some .int) ∈ TT := tt_in 232 (by decide +kernel) (by decide +kernel)
theorem k_233 : Cond.methodLink R_C 174 y_N_fromLatest ∈ TT := tt_in 233 (by decide +kernel) (by decide +kernel)
theorem k_234 : Cond.instanceMethod y_N_fromLatest ∈ TT := tt_in 234 (by decide +kernel) (by decide +kernel)
theorem k_235 : Cond.selects R_N y_N_fromLatest y_N_fromLatest ∈ TT := tt_in 235 (by decide +kernel) (by decide +kernel)
theorem k_236 : Cond.code y_N_fromLatest b_N_fromLatest 2 (some .int) ∈ TT := tt_in 236 (by decide +kernel) (by decide +kernel)
theorem k_237 : Cond.methodLink R_N 19 y_J_floorMod ∈ TT := tt_in 237 (by decide +kernel) (by decide +kernel)
theorem k_238 : Cond.static y_J_floorMod ∈ TT := tt_in 238 (by decide +kernel) (by decide +kernel)
theorem k_239 : Cond.code y_J_floorMod b_J_floorMod 3 (some .int) ∈ TT := tt_in 239 (by decide +kernel) (by decide +kernel)
theorem k_240 : Cond.methodLink R_L 45 y_L_declare ∈ TT := tt_in 240 (by decide +kernel) (by decide +kernel)
theorem k_241 : Cond.static y_L_declare ∈ TT := tt_in 241 (by decide +kernel) (by decide +kernel)
theorem k_242 : Cond.codeWith y_L_declare b_L_declare 6 (some .int) [(0, 9, 12, 13), (0, 9, 16, 15)] ∈ TT := tt_in 242 (by decide +kernel) (by decide +kernel)
theorem k_245 : Cond.methodLink R_L 7 y_C_declare ∈ TT := tt_in 245 (by decide +kernel) (by decide +kernel)
theorem k_246 : Cond.instanceMethod y_C_declare ∈ TT := tt_in 246 (by decide +kernel) (by decide +kernel)
theorem k_247 : Cond.selects R_C y_C_declare y_C_declare ∈ TT := tt_in 247 (by decide +kernel) (by decide +kernel)
theorem k_248 : Cond.code y_C_declare b_C_declare 6 none ∈ TT := tt_in 248 (by decide +kernel) (by decide +kernel)
theorem k_249 : Cond.classLink R_C 48 "java/lang/IllegalStateException" ∈ TT := tt_in 249 (by decide +kernel) (by decide +kernel)
theorem k_316 : Cond.classLink R_C 59 "java/lang/IllegalArgumentException" ∈ TT := tt_in 316 (by decide +kernel) (by decide +kernel)
theorem k_332 : Cond.methodLink R_L 54 y_L_mayUse ∈ TT := tt_in 332 (by decide +kernel) (by decide +kernel)
theorem k_333 : Cond.static y_L_mayUse ∈ TT := tt_in 333 (by decide +kernel) (by decide +kernel)
theorem k_334 : Cond.codeWith y_L_mayUse b_L_mayUse 5 (some .int) [(0, 7, 10, 13), (0, 7, 14, 15)] ∈ TT := tt_in 334 (by decide +kernel) (by decide +kernel)
theorem k_335 : Cond.methodLink R_L 17 y_C_mayUse ∈ TT := tt_in 335 (by decide +kernel) (by decide +kernel)
theorem k_336 : Cond.instanceMethod y_C_mayUse ∈ TT := tt_in 336 (by decide +kernel) (by decide +kernel)
theorem k_337 : Cond.selects R_C y_C_mayUse y_C_mayUse ∈ TT := tt_in 337 (by decide +kernel) (by decide +kernel)
theorem k_338 : Cond.code y_C_mayUse b_C_mayUse 4 none ∈ TT := tt_in 338 (by decide +kernel) (by decide +kernel)
theorem k_341 : Cond.methodLink R_L 58 y_L_seal ∈ TT := tt_in 341 (by decide +kernel) (by decide +kernel)
theorem k_342 : Cond.static y_L_seal ∈ TT := tt_in 342 (by decide +kernel) (by decide +kernel)
theorem k_343 : Cond.codeWith y_L_seal b_L_seal 3 (some .int) [(0, 8, 11, 13)] ∈ TT := tt_in 343 (by decide +kernel) (by decide +kernel)
theorem k_344 : Cond.methodLink R_L 21 y_C_seal ∈ TT := tt_in 344 (by decide +kernel) (by decide +kernel)
theorem k_345 : Cond.instanceMethod y_C_seal ∈ TT := tt_in 345 (by decide +kernel) (by decide +kernel)
theorem k_346 : Cond.selects R_C y_C_seal y_C_seal ∈ TT := tt_in 346 (by decide +kernel) (by decide +kernel)
theorem k_347 : Cond.code y_C_seal b_C_seal 2 (some .int) ∈ TT := tt_in 347 (by decide +kernel) (by decide +kernel)
theorem k_348 : Cond.methodLink R_C 83 y_C_greatestBaseOfUsers ∈ TT := tt_in 348 (by decide +kernel) (by decide +kernel)
theorem k_350 : Cond.instanceMethod y_C_greatestBaseOfUsers ∈ TT := tt_in 350 (by decide +kernel) (by decide +kernel)
theorem k_351 : Cond.code y_C_greatestBaseOfUsers b_C_greatestBaseOfUsers 4 (some .int) ∈ TT := tt_in 351 (by decide +kernel) (by decide +kernel)
theorem k_352 : Cond.methodLink R_C 114 y_T_isUserOf ∈ TT := tt_in 352 (by decide +kernel) (by decide +kernel)
theorem k_353 : Cond.instanceMethod y_T_isUserOf ∈ TT := tt_in 353 (by decide +kernel) (by decide +kernel)
theorem k_354 : Cond.selects R_T y_T_isUserOf y_T_isUserOf ∈ TT := tt_in 354 (by decide +kernel) (by decide +kernel)
theorem k_355 : Cond.code y_T_isUserOf b_T_isUserOf 2 (some .boolean) ∈ TT := tt_in 355 (by decide +kernel) (by decide +kernel)
theorem k_356 : Cond.methodLink R_C 90 y_C_countDeclared ∈ TT := tt_in 356 (by decide +kernel) (by decide +kernel)
theorem k_358 : Cond.instanceMethod y_C_countDeclared ∈ TT := tt_in 358 (by decide +kernel) (by decide +kernel)
theorem k_359 : Cond.code y_C_countDeclared b_C_countDeclared 3 (some .int) ∈ TT := tt_in 359 (by decide +kernel) (by decide +kernel)
theorem k_360 : Cond.methodLink R_L 62 y_L_release ∈ TT := tt_in 360 (by decide +kernel) (by decide +kernel)
theorem k_361 : Cond.static y_L_release ∈ TT := tt_in 361 (by decide +kernel) (by decide +kernel)
theorem k_362 : Cond.codeWith y_L_release b_L_release 4 (some .int) [(0, 9, 12, 13), (0, 9, 15, 15)] ∈ TT := tt_in 362 (by decide +kernel) (by decide +kernel)
theorem k_363 : Cond.methodLink R_L 25 y_C_release ∈ TT := tt_in 363 (by decide +kernel) (by decide +kernel)
theorem k_364 : Cond.instanceMethod y_C_release ∈ TT := tt_in 364 (by decide +kernel) (by decide +kernel)
theorem k_365 : Cond.selects R_C y_C_release y_C_release ∈ TT := tt_in 365 (by decide +kernel) (by decide +kernel)
theorem k_366 : Cond.code y_C_release b_C_release 2 (some .int) ∈ TT := tt_in 366 (by decide +kernel) (by decide +kernel)
theorem k_369 : Cond.methodLink R_C 101 y_T_makeReady ∈ TT := tt_in 369 (by decide +kernel) (by decide +kernel)
theorem k_370 : Cond.instanceMethod y_T_makeReady ∈ TT := tt_in 370 (by decide +kernel) (by decide +kernel)
theorem k_371 : Cond.selects R_T y_T_makeReady y_T_makeReady ∈ TT := tt_in 371 (by decide +kernel) (by decide +kernel)
theorem k_372 : Cond.code y_T_makeReady b_T_makeReady 2 none ∈ TT := tt_in 372 (by decide +kernel) (by decide +kernel)
theorem k_373 : Cond.methodLink R_C 105 y_C_happened ∈ TT := tt_in 373 (by decide +kernel) (by decide +kernel)
theorem k_375 : Cond.instanceMethod y_C_happened ∈ TT := tt_in 375 (by decide +kernel) (by decide +kernel)
theorem k_376 : Cond.code y_C_happened b_C_happened 5 none ∈ TT := tt_in 376 (by decide +kernel) (by decide +kernel)
theorem k_377 : Cond.methodLink R_C 180 y_N_write ∈ TT := tt_in 377 (by decide +kernel) (by decide +kernel)
theorem k_378 : Cond.instanceMethod y_N_write ∈ TT := tt_in 378 (by decide +kernel) (by decide +kernel)
theorem k_379 : Cond.selects R_N y_N_write y_N_write ∈ TT := tt_in 379 (by decide +kernel) (by decide +kernel)
theorem k_380 : Cond.code y_N_write b_N_write 5 none ∈ TT := tt_in 380 (by decide +kernel) (by decide +kernel)
theorem k_381 : Cond.constant R_N 25 65536 ∈ TT := tt_in 381 (by decide +kernel) (by decide +kernel)
theorem k_382 : Cond.methodLink R_C 184 y_C_mostUrgent ∈ TT := tt_in 382 (by decide +kernel) (by decide +kernel)
theorem k_384 : Cond.instanceMethod y_C_mostUrgent ∈ TT := tt_in 384 (by decide +kernel) (by decide +kernel)
theorem k_385 : Cond.code y_C_mostUrgent b_C_mostUrgent 3 (some .int) ∈ TT := tt_in 385 (by decide +kernel) (by decide +kernel)
theorem k_386 : Cond.methodLink R_L 66 y_L_take ∈ TT := tt_in 386 (by decide +kernel) (by decide +kernel)
theorem k_387 : Cond.static y_L_take ∈ TT := tt_in 387 (by decide +kernel) (by decide +kernel)
theorem k_388 : Cond.codeWith y_L_take b_L_take 4 (some .int) [(0, 9, 12, 13), (0, 9, 15, 15)] ∈ TT := tt_in 388 (by decide +kernel) (by decide +kernel)
theorem k_389 : Cond.methodLink R_L 29 y_C_take ∈ TT := tt_in 389 (by decide +kernel) (by decide +kernel)
theorem k_390 : Cond.instanceMethod y_C_take ∈ TT := tt_in 390 (by decide +kernel) (by decide +kernel)
theorem k_391 : Cond.selects R_C y_C_take y_C_take ∈ TT := tt_in 391 (by decide +kernel) (by decide +kernel)
theorem k_392 : Cond.code y_C_take b_C_take 4 (some .int) ∈ TT := tt_in 392 (by decide +kernel) (by decide +kernel)
theorem k_393 : Cond.methodLink R_C 109 y_C_isHeld ∈ TT := tt_in 393 (by decide +kernel) (by decide +kernel)
theorem k_395 : Cond.instanceMethod y_C_isHeld ∈ TT := tt_in 395 (by decide +kernel) (by decide +kernel)
theorem k_396 : Cond.code y_C_isHeld b_C_isHeld 2 (some .boolean) ∈ TT := tt_in 396 (by decide +kernel) (by decide +kernel)
theorem k_399 : Cond.methodLink R_L 69 y_L_give ∈ TT := tt_in 399 (by decide +kernel) (by decide +kernel)
theorem k_400 : Cond.static y_L_give ∈ TT := tt_in 400 (by decide +kernel) (by decide +kernel)
theorem k_401 : Cond.codeWith y_L_give b_L_give 4 (some .int) [(0, 9, 12, 13), (0, 9, 15, 15)] ∈ TT := tt_in 401 (by decide +kernel) (by decide +kernel)
theorem k_402 : Cond.methodLink R_L 32 y_C_give ∈ TT := tt_in 402 (by decide +kernel) (by decide +kernel)
theorem k_403 : Cond.instanceMethod y_C_give ∈ TT := tt_in 403 (by decide +kernel) (by decide +kernel)
theorem k_404 : Cond.selects R_C y_C_give y_C_give ∈ TT := tt_in 404 (by decide +kernel) (by decide +kernel)
theorem k_405 : Cond.code y_C_give b_C_give 4 (some .int) ∈ TT := tt_in 405 (by decide +kernel) (by decide +kernel)
theorem k_408 : Cond.methodLink R_L 72 y_L_finish ∈ TT := tt_in 408 (by decide +kernel) (by decide +kernel)
theorem k_409 : Cond.static y_L_finish ∈ TT := tt_in 409 (by decide +kernel) (by decide +kernel)
theorem k_410 : Cond.codeWith y_L_finish b_L_finish 3 (some .int) [(0, 8, 11, 13)] ∈ TT := tt_in 410 (by decide +kernel) (by decide +kernel)
theorem k_411 : Cond.methodLink R_L 35 y_C_finish ∈ TT := tt_in 411 (by decide +kernel) (by decide +kernel)
theorem k_412 : Cond.instanceMethod y_C_finish ∈ TT := tt_in 412 (by decide +kernel) (by decide +kernel)
theorem k_413 : Cond.selects R_C y_C_finish y_C_finish ∈ TT := tt_in 413 (by decide +kernel) (by decide +kernel)
theorem k_414 : Cond.code y_C_finish b_C_finish 2 (some .int) ∈ TT := tt_in 414 (by decide +kernel) (by decide +kernel)
theorem k_416 : Cond.methodLink R_L 75 y_L_pass ∈ TT := tt_in 416 (by decide +kernel) (by decide +kernel)
theorem k_417 : Cond.static y_L_pass ∈ TT := tt_in 417 (by decide +kernel) (by decide +kernel)
theorem k_418 : Cond.codeWith y_L_pass b_L_pass 4 (some .int) [(0, 9, 12, 15)] ∈ TT := tt_in 418 (by decide +kernel) (by decide +kernel)
theorem k_419 : Cond.methodLink R_L 38 y_C_pass ∈ TT := tt_in 419 (by decide +kernel) (by decide +kernel)
theorem k_420 : Cond.instanceMethod y_C_pass ∈ TT := tt_in 420 (by decide +kernel) (by decide +kernel)
theorem k_421 : Cond.selects R_C y_C_pass y_C_pass ∈ TT := tt_in 421 (by decide +kernel) (by decide +kernel)
theorem k_422 : Cond.code y_C_pass b_C_pass 2 (some .int) ∈ TT := tt_in 422 (by decide +kernel) (by decide +kernel)
theorem k_424 : Cond.methodLink R_C 154 y_C_delayMoreUrgentThan ∈ TT := tt_in 424 (by decide +kernel) (by decide +kernel)
theorem k_426 : Cond.instanceMethod y_C_delayMoreUrgentThan ∈ TT := tt_in 426 (by decide +kernel) (by decide +kernel)
theorem k_427 : Cond.code y_C_delayMoreUrgentThan b_C_delayMoreUrgentThan 4 none ∈ TT := tt_in 427 (by decide +kernel) (by decide +kernel)
theorem k_428 : Cond.classLink R_L 42 R_M ∈ TT := tt_in 428 (by decide +kernel) (by decide +kernel)
theorem k_429 : Cond.instantiable R_M 18 ∈ TT := tt_in 429 (by decide +kernel) (by decide +kernel)
theorem k_430 : Cond.methodLink R_L 44 y_M_init ∈ TT := tt_in 430 (by decide +kernel) (by decide +kernel)
theorem k_431 : Cond.instanceMethod y_M_init ∈ TT := tt_in 431 (by decide +kernel) (by decide +kernel)
theorem k_432 : Cond.code y_M_init b_M_init 2 none ∈ TT := tt_in 432 (by decide +kernel) (by decide +kernel)
theorem k_433 : Cond.methodLink R_M 1 objectInit ∈ TT := tt_in 433 (by decide +kernel) (by decide +kernel)
theorem k_434 : Cond.fieldLink R_M 46 "CeilingDispatchModel" "thrown" "I" ∈ TT := tt_in 434 (by decide +kernel) (by decide +kernel)
theorem k_435 : Cond.fieldLink R_M 54 "CeilingDispatchModel" "sealed" "Z" ∈ TT := tt_in 435 (by decide +kernel) (by decide +kernel)
theorem k_436 : Cond.fieldLink R_M 75 "CeilingDispatchModel" "clock" "I" ∈ TT := tt_in 436 (by decide +kernel) (by decide +kernel)
theorem k_437 : Cond.fieldLink R_M 90 "CeilingDispatchModel" "releases" "I" ∈ TT := tt_in 437 (by decide +kernel) (by decide +kernel)
theorem k_438 : Cond.fieldLink R_M 7 "CeilingDispatchModel" "bases" "[I" ∈ TT := tt_in 438 (by decide +kernel) (by decide +kernel)
theorem k_439 : Cond.fieldLink R_M 13 "CeilingDispatchModel" "costs" "[I" ∈ TT := tt_in 439 (by decide +kernel) (by decide +kernel)
theorem k_440 : Cond.fieldLink R_M 16 "CeilingDispatchModel" "periods" "[I" ∈ TT := tt_in 440 (by decide +kernel) (by decide +kernel)
theorem k_441 : Cond.fieldLink R_M 19 "CeilingDispatchModel" "turns" "[I" ∈ TT := tt_in 441 (by decide +kernel) (by decide +kernel)
theorem k_442 : Cond.fieldLink R_M 22 "CeilingDispatchModel" "priorities" "[I" ∈ TT := tt_in 442 (by decide +kernel) (by decide +kernel)
theorem k_443 : Cond.fieldLink R_M 25 "CeilingDispatchModel" "works" "[I" ∈ TT := tt_in 443 (by decide +kernel) (by decide +kernel)
theorem k_444 : Cond.fieldLink R_M 28 "CeilingDispatchModel" "delays" "[I" ∈ TT := tt_in 444 (by decide +kernel) (by decide +kernel)
theorem k_445 : Cond.fieldLink R_M 31 "CeilingDispatchModel" "lengths" "[I" ∈ TT := tt_in 445 (by decide +kernel) (by decide +kernel)
theorem k_446 : Cond.fieldLink R_M 34 "CeilingDispatchModel" "holders" "[I" ∈ TT := tt_in 446 (by decide +kernel) (by decide +kernel)
theorem k_447 : Cond.fieldLink R_M 37 "CeilingDispatchModel" "before" "[I" ∈ TT := tt_in 447 (by decide +kernel) (by decide +kernel)
theorem k_448 : Cond.fieldLink R_M 40 "CeilingDispatchModel" "taken" "[I" ∈ TT := tt_in 448 (by decide +kernel) (by decide +kernel)
theorem k_449 : Cond.fieldLink R_M 97 "CeilingDispatchModel" "takes" "I" ∈ TT := tt_in 449 (by decide +kernel) (by decide +kernel)
theorem k_450 : Cond.fieldLink R_M 72 "CeilingDispatchModel" "made" "I" ∈ TT := tt_in 450 (by decide +kernel) (by decide +kernel)
theorem k_451 : Cond.fieldLink R_M 43 "CeilingDispatchModel" "kept" "[I" ∈ TT := tt_in 451 (by decide +kernel) (by decide +kernel)
theorem k_489 : Cond.methodLink R_L 51 y_M_thrown ∈ TT := tt_in 489 (by decide +kernel) (by decide +kernel)
theorem k_490 : Cond.instanceMethod y_M_thrown ∈ TT := tt_in 490 (by decide +kernel) (by decide +kernel)
theorem k_491 : Cond.selects R_M y_M_thrown y_M_thrown ∈ TT := tt_in 491 (by decide +kernel) (by decide +kernel)
theorem k_492 : Cond.code y_M_thrown b_M_thrown 1 (some .int) ∈ TT := tt_in 492 (by decide +kernel) (by decide +kernel)
theorem k_493 : Cond.methodLink R_L 50 y_M_declare ∈ TT := tt_in 493 (by decide +kernel) (by decide +kernel)
theorem k_494 : Cond.instanceMethod y_M_declare ∈ TT := tt_in 494 (by decide +kernel) (by decide +kernel)
theorem k_495 : Cond.selects R_M y_M_declare y_M_declare ∈ TT := tt_in 495 (by decide +kernel) (by decide +kernel)
theorem k_496 : Cond.code y_M_declare b_M_declare 6 none ∈ TT := tt_in 496 (by decide +kernel) (by decide +kernel)
theorem k_497 : Cond.methodLink R_M 50 y_M_isTask ∈ TT := tt_in 497 (by decide +kernel) (by decide +kernel)
theorem k_498 : Cond.static y_M_isTask ∈ TT := tt_in 498 (by decide +kernel) (by decide +kernel)
theorem k_499 : Cond.code y_M_isTask b_M_isTask 1 (some .boolean) ∈ TT := tt_in 499 (by decide +kernel) (by decide +kernel)
theorem k_500 : Cond.methodLink R_M 58 y_M_isDeclared ∈ TT := tt_in 500 (by decide +kernel) (by decide +kernel)
theorem k_502 : Cond.instanceMethod y_M_isDeclared ∈ TT := tt_in 502 (by decide +kernel) (by decide +kernel)
theorem k_503 : Cond.code y_M_isDeclared b_M_isDeclared 2 (some .boolean) ∈ TT := tt_in 503 (by decide +kernel) (by decide +kernel)
theorem k_504 : Cond.methodLink R_M 61 y_M_refuses ∈ TT := tt_in 504 (by decide +kernel) (by decide +kernel)
theorem k_506 : Cond.instanceMethod y_M_refuses ∈ TT := tt_in 506 (by decide +kernel) (by decide +kernel)
theorem k_507 : Cond.code y_M_refuses b_M_refuses 3 (some .boolean) ∈ TT := tt_in 507 (by decide +kernel) (by decide +kernel)
theorem k_508 : Cond.methodLink R_L 57 y_M_mayUse ∈ TT := tt_in 508 (by decide +kernel) (by decide +kernel)
theorem k_509 : Cond.instanceMethod y_M_mayUse ∈ TT := tt_in 509 (by decide +kernel) (by decide +kernel)
theorem k_510 : Cond.selects R_M y_M_mayUse y_M_mayUse ∈ TT := tt_in 510 (by decide +kernel) (by decide +kernel)
theorem k_511 : Cond.code y_M_mayUse b_M_mayUse 4 none ∈ TT := tt_in 511 (by decide +kernel) (by decide +kernel)
theorem k_512 : Cond.methodLink R_M 65 y_M_isThing ∈ TT := tt_in 512 (by decide +kernel) (by decide +kernel)
theorem k_513 : Cond.static y_M_isThing ∈ TT := tt_in 513 (by decide +kernel) (by decide +kernel)
theorem k_514 : Cond.code y_M_isThing b_M_isThing 1 (some .boolean) ∈ TT := tt_in 514 (by decide +kernel) (by decide +kernel)
theorem k_515 : Cond.methodLink R_L 61 y_M_seal ∈ TT := tt_in 515 (by decide +kernel) (by decide +kernel)
theorem k_516 : Cond.instanceMethod y_M_seal ∈ TT := tt_in 516 (by decide +kernel) (by decide +kernel)
theorem k_517 : Cond.selects R_M y_M_seal y_M_seal ∈ TT := tt_in 517 (by decide +kernel) (by decide +kernel)
theorem k_518 : Cond.code y_M_seal b_M_seal 3 (some .int) ∈ TT := tt_in 518 (by decide +kernel) (by decide +kernel)
theorem k_519 : Cond.methodLink R_L 65 y_M_release ∈ TT := tt_in 519 (by decide +kernel) (by decide +kernel)
theorem k_520 : Cond.instanceMethod y_M_release ∈ TT := tt_in 520 (by decide +kernel) (by decide +kernel)
theorem k_521 : Cond.selects R_M y_M_release y_M_release ∈ TT := tt_in 521 (by decide +kernel) (by decide +kernel)
theorem k_522 : Cond.code y_M_release b_M_release 3 (some .int) ∈ TT := tt_in 522 (by decide +kernel) (by decide +kernel)
theorem k_523 : Cond.methodLink R_M 87 y_M_isReady ∈ TT := tt_in 523 (by decide +kernel) (by decide +kernel)
theorem k_525 : Cond.instanceMethod y_M_isReady ∈ TT := tt_in 525 (by decide +kernel) (by decide +kernel)
theorem k_526 : Cond.code y_M_isReady b_M_isReady 2 (some .boolean) ∈ TT := tt_in 526 (by decide +kernel) (by decide +kernel)
theorem k_527 : Cond.methodLink R_M 83 y_M_runner ∈ TT := tt_in 527 (by decide +kernel) (by decide +kernel)
theorem k_529 : Cond.instanceMethod y_M_runner ∈ TT := tt_in 529 (by decide +kernel) (by decide +kernel)
theorem k_530 : Cond.code y_M_runner b_M_runner 3 (some .int) ∈ TT := tt_in 530 (by decide +kernel) (by decide +kernel)
theorem k_531 : Cond.methodLink R_M 68 y_M_isFirst ∈ TT := tt_in 531 (by decide +kernel) (by decide +kernel)
theorem k_533 : Cond.instanceMethod y_M_isFirst ∈ TT := tt_in 533 (by decide +kernel) (by decide +kernel)
theorem k_534 : Cond.code y_M_isFirst b_M_isFirst 3 (some .boolean) ∈ TT := tt_in 534 (by decide +kernel) (by decide +kernel)
theorem k_535 : Cond.methodLink R_M 93 y_M_tell ∈ TT := tt_in 535 (by decide +kernel) (by decide +kernel)
theorem k_537 : Cond.instanceMethod y_M_tell ∈ TT := tt_in 537 (by decide +kernel) (by decide +kernel)
theorem k_538 : Cond.code y_M_tell b_M_tell 6 none ∈ TT := tt_in 538 (by decide +kernel) (by decide +kernel)
theorem k_539 : Cond.methodLink R_M 79 y_M_add ∈ TT := tt_in 539 (by decide +kernel) (by decide +kernel)
theorem k_541 : Cond.instanceMethod y_M_add ∈ TT := tt_in 541 (by decide +kernel) (by decide +kernel)
theorem k_542 : Cond.code y_M_add b_M_add 4 none ∈ TT := tt_in 542 (by decide +kernel) (by decide +kernel)
theorem k_543 : Cond.constant R_M 78 65536 ∈ TT := tt_in 543 (by decide +kernel) (by decide +kernel)
theorem k_544 : Cond.methodLink R_L 68 y_M_take ∈ TT := tt_in 544 (by decide +kernel) (by decide +kernel)
theorem k_545 : Cond.instanceMethod y_M_take ∈ TT := tt_in 545 (by decide +kernel) (by decide +kernel)
theorem k_546 : Cond.selects R_M y_M_take y_M_take ∈ TT := tt_in 546 (by decide +kernel) (by decide +kernel)
theorem k_547 : Cond.code y_M_take b_M_take 6 (some .int) ∈ TT := tt_in 547 (by decide +kernel) (by decide +kernel)
theorem k_548 : Cond.methodLink R_M 100 y_M_top ∈ TT := tt_in 548 (by decide +kernel) (by decide +kernel)
theorem k_550 : Cond.instanceMethod y_M_top ∈ TT := tt_in 550 (by decide +kernel) (by decide +kernel)
theorem k_551 : Cond.code y_M_top b_M_top 4 (some .int) ∈ TT := tt_in 551 (by decide +kernel) (by decide +kernel)
theorem k_552 : Cond.methodLink R_L 71 y_M_give ∈ TT := tt_in 552 (by decide +kernel) (by decide +kernel)
theorem k_553 : Cond.instanceMethod y_M_give ∈ TT := tt_in 553 (by decide +kernel) (by decide +kernel)
theorem k_554 : Cond.selects R_M y_M_give y_M_give ∈ TT := tt_in 554 (by decide +kernel) (by decide +kernel)
theorem k_555 : Cond.code y_M_give b_M_give 3 (some .int) ∈ TT := tt_in 555 (by decide +kernel) (by decide +kernel)
theorem k_556 : Cond.methodLink R_M 104 y_M_latest ∈ TT := tt_in 556 (by decide +kernel) (by decide +kernel)
theorem k_558 : Cond.instanceMethod y_M_latest ∈ TT := tt_in 558 (by decide +kernel) (by decide +kernel)
theorem k_559 : Cond.code y_M_latest b_M_latest 4 (some .int) ∈ TT := tt_in 559 (by decide +kernel) (by decide +kernel)
theorem k_560 : Cond.methodLink R_L 74 y_M_finish ∈ TT := tt_in 560 (by decide +kernel) (by decide +kernel)
theorem k_561 : Cond.instanceMethod y_M_finish ∈ TT := tt_in 561 (by decide +kernel) (by decide +kernel)
theorem k_562 : Cond.selects R_M y_M_finish y_M_finish ∈ TT := tt_in 562 (by decide +kernel) (by decide +kernel)
theorem k_563 : Cond.code y_M_finish b_M_finish 2 (some .int) ∈ TT := tt_in 563 (by decide +kernel) (by decide +kernel)
theorem k_564 : Cond.methodLink R_L 77 y_M_pass ∈ TT := tt_in 564 (by decide +kernel) (by decide +kernel)
theorem k_565 : Cond.instanceMethod y_M_pass ∈ TT := tt_in 565 (by decide +kernel) (by decide +kernel)
theorem k_566 : Cond.selects R_M y_M_pass y_M_pass ∈ TT := tt_in 566 (by decide +kernel) (by decide +kernel)
theorem k_567 : Cond.code y_M_pass b_M_pass 4 (some .int) ∈ TT := tt_in 567 (by decide +kernel) (by decide +kernel)
theorem k_568 : Cond.methodLink R_L 81 y_M_running ∈ TT := tt_in 568 (by decide +kernel) (by decide +kernel)
theorem k_569 : Cond.instanceMethod y_M_running ∈ TT := tt_in 569 (by decide +kernel) (by decide +kernel)
theorem k_570 : Cond.selects R_M y_M_running y_M_running ∈ TT := tt_in 570 (by decide +kernel) (by decide +kernel)
theorem k_571 : Cond.code y_M_running b_M_running 1 (some .int) ∈ TT := tt_in 571 (by decide +kernel) (by decide +kernel)
theorem k_572 : Cond.methodLink R_L 85 y_M_priority ∈ TT := tt_in 572 (by decide +kernel) (by decide +kernel)
theorem k_573 : Cond.instanceMethod y_M_priority ∈ TT := tt_in 573 (by decide +kernel) (by decide +kernel)
theorem k_574 : Cond.selects R_M y_M_priority y_M_priority ∈ TT := tt_in 574 (by decide +kernel) (by decide +kernel)
theorem k_575 : Cond.code y_M_priority b_M_priority 2 (some .int) ∈ TT := tt_in 575 (by decide +kernel) (by decide +kernel)
theorem k_576 : Cond.methodLink R_L 89 y_M_place ∈ TT := tt_in 576 (by decide +kernel) (by decide +kernel)
theorem k_577 : Cond.instanceMethod y_M_place ∈ TT := tt_in 577 (by decide +kernel) (by decide +kernel)
theorem k_578 : Cond.selects R_M y_M_place y_M_place ∈ TT := tt_in 578 (by decide +kernel) (by decide +kernel)
theorem k_579 : Cond.code y_M_place b_M_place 4 (some .int) ∈ TT := tt_in 579 (by decide +kernel) (by decide +kernel)
theorem k_580 : Cond.methodLink R_L 93 y_M_ceiling ∈ TT := tt_in 580 (by decide +kernel) (by decide +kernel)
theorem k_581 : Cond.instanceMethod y_M_ceiling ∈ TT := tt_in 581 (by decide +kernel) (by decide +kernel)
theorem k_582 : Cond.selects R_M y_M_ceiling y_M_ceiling ∈ TT := tt_in 582 (by decide +kernel) (by decide +kernel)
theorem k_583 : Cond.code y_M_ceiling b_M_ceiling 2 (some .int) ∈ TT := tt_in 583 (by decide +kernel) (by decide +kernel)
theorem k_584 : Cond.methodLink R_L 97 y_M_holder ∈ TT := tt_in 584 (by decide +kernel) (by decide +kernel)
theorem k_585 : Cond.instanceMethod y_M_holder ∈ TT := tt_in 585 (by decide +kernel) (by decide +kernel)
theorem k_586 : Cond.selects R_M y_M_holder y_M_holder ∈ TT := tt_in 586 (by decide +kernel) (by decide +kernel)
theorem k_587 : Cond.code y_M_holder b_M_holder 2 (some .int) ∈ TT := tt_in 587 (by decide +kernel) (by decide +kernel)
theorem k_588 : Cond.methodLink R_L 102 y_M_spent ∈ TT := tt_in 588 (by decide +kernel) (by decide +kernel)
theorem k_589 : Cond.instanceMethod y_M_spent ∈ TT := tt_in 589 (by decide +kernel) (by decide +kernel)
theorem k_590 : Cond.selects R_M y_M_spent y_M_spent ∈ TT := tt_in 590 (by decide +kernel) (by decide +kernel)
theorem k_591 : Cond.code y_M_spent b_M_spent 3 (some .int) ∈ TT := tt_in 591 (by decide +kernel) (by decide +kernel)
theorem k_592 : Cond.methodLink R_L 106 y_M_blocking ∈ TT := tt_in 592 (by decide +kernel) (by decide +kernel)
theorem k_593 : Cond.instanceMethod y_M_blocking ∈ TT := tt_in 593 (by decide +kernel) (by decide +kernel)
theorem k_594 : Cond.selects R_M y_M_blocking y_M_blocking ∈ TT := tt_in 594 (by decide +kernel) (by decide +kernel)
theorem k_595 : Cond.code y_M_blocking b_M_blocking 2 (some .int) ∈ TT := tt_in 595 (by decide +kernel) (by decide +kernel)
theorem k_596 : Cond.methodLink R_M 107 y_M_longest ∈ TT := tt_in 596 (by decide +kernel) (by decide +kernel)
theorem k_598 : Cond.instanceMethod y_M_longest ∈ TT := tt_in 598 (by decide +kernel) (by decide +kernel)
theorem k_599 : Cond.code y_M_longest b_M_longest 5 (some .int) ∈ TT := tt_in 599 (by decide +kernel) (by decide +kernel)
theorem k_600 : Cond.methodLink R_L 110 y_M_response ∈ TT := tt_in 600 (by decide +kernel) (by decide +kernel)
theorem k_601 : Cond.instanceMethod y_M_response ∈ TT := tt_in 601 (by decide +kernel) (by decide +kernel)
theorem k_602 : Cond.selects R_M y_M_response y_M_response ∈ TT := tt_in 602 (by decide +kernel) (by decide +kernel)
theorem k_603 : Cond.code y_M_response b_M_response 3 (some .int) ∈ TT := tt_in 603 (by decide +kernel) (by decide +kernel)
theorem k_604 : Cond.methodLink R_M 110 y_M_load ∈ TT := tt_in 604 (by decide +kernel) (by decide +kernel)
theorem k_606 : Cond.instanceMethod y_M_load ∈ TT := tt_in 606 (by decide +kernel) (by decide +kernel)
theorem k_607 : Cond.code y_M_load b_M_load 6 (some .int) ∈ TT := tt_in 607 (by decide +kernel) (by decide +kernel)
theorem k_608 : Cond.methodLink R_L 114 y_M_notes ∈ TT := tt_in 608 (by decide +kernel) (by decide +kernel)
theorem k_609 : Cond.instanceMethod y_M_notes ∈ TT := tt_in 609 (by decide +kernel) (by decide +kernel)
theorem k_610 : Cond.selects R_M y_M_notes y_M_notes ∈ TT := tt_in 610 (by decide +kernel) (by decide +kernel)
theorem k_611 : Cond.code y_M_notes b_M_notes 1 (some .int) ∈ TT := tt_in 611 (by decide +kernel) (by decide +kernel)
theorem k_612 : Cond.methodLink R_L 118 y_M_note ∈ TT := tt_in 612 (by decide +kernel) (by decide +kernel)
theorem k_613 : Cond.instanceMethod y_M_note ∈ TT := tt_in 613 (by decide +kernel) (by decide +kernel)
theorem k_614 : Cond.selects R_M y_M_note y_M_note ∈ TT := tt_in 614 (by decide +kernel) (by decide +kernel)
theorem k_615 : Cond.code y_M_note b_M_note 2 (some .int) ∈ TT := tt_in 615 (by decide +kernel) (by decide +kernel)
theorem k_616 : Cond.arrayClass .long ∈ TT := tt_in 616 (by decide +kernel) (by decide +kernel)
-- words across the nest
def nw9 : List Cond := [Cond.methodLinkNest R_C 23 y_N_init "CeilingDispatch", Cond.methodLinkNest R_C 42 y_T_init "CeilingDispatch", Cond.methodLinkNest R_C 43 y_H_init "CeilingDispatch", Cond.fieldLinkNest R_C 64 "CeilingDispatch$Task" "base" "I" "CeilingDispatch", Cond.fieldLinkNest R_C 67 "CeilingDispatch$Task" "cost" "I" "CeilingDispatch", Cond.fieldLinkNest R_C 70 "CeilingDispatch$Task" "period" "I" "CeilingDispatch", Cond.fieldLinkNest R_C 79 "CeilingDispatch$Task" "lengths" "[I" "CeilingDispatch", Cond.fieldLinkNest R_C 87 "CeilingDispatch$Thing" "ceiling" "I" "CeilingDispatch", Cond.fieldLinkNest R_C 119 "CeilingDispatch$Thing" "holder" "I" "CeilingDispatch", Cond.fieldLinkNest R_C 122 "CeilingDispatch$Task" "lastTaken" "I" "CeilingDispatch", Cond.fieldLinkNest R_C 125 "CeilingDispatch$Thing" "takenBefore" "I" "CeilingDispatch", Cond.fieldLinkNest R_C 128 "CeilingDispatch$Task" "priority" "I" "CeilingDispatch", Cond.fieldLinkNest R_C 131 "CeilingDispatch$Thing" "priorityBefore" "I" "CeilingDispatch", Cond.fieldLinkNest R_C 146 "CeilingDispatch$Task" "ready" "Z" "CeilingDispatch", Cond.fieldLinkNest R_C 149 "CeilingDispatch$Task" "work" "I" "CeilingDispatch", Cond.fieldLinkNest R_C 162 "CeilingDispatch$Task" "delay" "I" "CeilingDispatch", Cond.fieldLinkNest R_C 171 "CeilingDispatch$NoteBook" "made" "I" "CeilingDispatch"]
theorem nk_C_23 : Cond.methodLinkNest R_C 23 y_N_init "CeilingDispatch" ∈ nw9 := List.mem_of_getElem? (i := 0) rfl
theorem nk_C_42 : Cond.methodLinkNest R_C 42 y_T_init "CeilingDispatch" ∈ nw9 := List.mem_of_getElem? (i := 1) rfl
theorem nk_C_43 : Cond.methodLinkNest R_C 43 y_H_init "CeilingDispatch" ∈ nw9 := List.mem_of_getElem? (i := 2) rfl
theorem nk_C_64 : Cond.fieldLinkNest R_C 64 "CeilingDispatch$Task" "base" "I" "CeilingDispatch" ∈ nw9 := List.mem_of_getElem? (i := 3) rfl
theorem nk_C_67 : Cond.fieldLinkNest R_C 67 "CeilingDispatch$Task" "cost" "I" "CeilingDispatch" ∈ nw9 := List.mem_of_getElem? (i := 4) rfl
theorem nk_C_70 : Cond.fieldLinkNest R_C 70 "CeilingDispatch$Task" "period" "I" "CeilingDispatch" ∈ nw9 := List.mem_of_getElem? (i := 5) rfl
theorem nk_C_79 : Cond.fieldLinkNest R_C 79 "CeilingDispatch$Task" "lengths" "[I" "CeilingDispatch" ∈ nw9 := List.mem_of_getElem? (i := 6) rfl
theorem nk_C_87 : Cond.fieldLinkNest R_C 87 "CeilingDispatch$Thing" "ceiling" "I" "CeilingDispatch" ∈ nw9 := List.mem_of_getElem? (i := 7) rfl
theorem nk_C_119 : Cond.fieldLinkNest R_C 119 "CeilingDispatch$Thing" "holder" "I" "CeilingDispatch" ∈ nw9 := List.mem_of_getElem? (i := 8) rfl
theorem nk_C_122 : Cond.fieldLinkNest R_C 122 "CeilingDispatch$Task" "lastTaken" "I" "CeilingDispatch" ∈ nw9 := List.mem_of_getElem? (i := 9) rfl
theorem nk_C_125 : Cond.fieldLinkNest R_C 125 "CeilingDispatch$Thing" "takenBefore" "I" "CeilingDispatch" ∈ nw9 := List.mem_of_getElem? (i := 10) rfl
theorem nk_C_128 : Cond.fieldLinkNest R_C 128 "CeilingDispatch$Task" "priority" "I" "CeilingDispatch" ∈ nw9 := List.mem_of_getElem? (i := 11) rfl
theorem nk_C_131 : Cond.fieldLinkNest R_C 131 "CeilingDispatch$Thing" "priorityBefore" "I" "CeilingDispatch" ∈ nw9 := List.mem_of_getElem? (i := 12) rfl
theorem nk_C_146 : Cond.fieldLinkNest R_C 146 "CeilingDispatch$Task" "ready" "Z" "CeilingDispatch" ∈ nw9 := List.mem_of_getElem? (i := 13) rfl
theorem nk_C_149 : Cond.fieldLinkNest R_C 149 "CeilingDispatch$Task" "work" "I" "CeilingDispatch" ∈ nw9 := List.mem_of_getElem? (i := 14) rfl
theorem nk_C_162 : Cond.fieldLinkNest R_C 162 "CeilingDispatch$Task" "delay" "I" "CeilingDispatch" ∈ nw9 := List.mem_of_getElem? (i := 15) rfl
theorem nk_C_171 : Cond.fieldLinkNest R_C 171 "CeilingDispatch$NoteBook" "made" "I" "CeilingDispatch" ∈ nw9 := List.mem_of_getElem? (i := 16) rfl
theorem nw9_in : ∀ w ∈ nw9, w ∈ lw_tbl := by
  have h : nw9 = [49, 63, 108, 68, 70, 72, 74, 113, 115, 81, 117, 78, 119, 76, 83, 85, 55].filterMap (fun i => lw_tbl[i]?) := by decide +kernel
  intro w hw
  rw [h] at hw
  obtain ⟨i, -, hi⟩ := List.mem_filterMap.mp hw
  exact List.mem_of_getElem? hi
