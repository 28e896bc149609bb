section
-- ===== PART A: goes FIRST, ahead of the names: the tables' words, and 'selects' of the private methods out of them =====
/-- a private method of a class that the tables say can be made, by its rows of tables_1 -/
def lw_okq (q : MethodName × Nat) : Prop := (q.1.cls ≠ "java/lang/invoke/MethodHandle" ∧ q.1.cls ≠ "java/lang/invoke/VarHandle") ∧ Cond.instantiable q.1.cls q.2 ∈ tables_1 ∧ Cond.privateMethod q.1 ∈ tables_1 ∧ Cond.instanceMethod q.1 ∈ tables_1
theorem lw_p0 : lw_okq (⟨"CeilingDispatch", "isDeclared", "(I)Z"⟩, 7) := ⟨⟨by decide +kernel, by decide +kernel⟩, List.mem_of_getElem? (i := 13) (by decide +kernel), List.mem_of_getElem? (i := 137) (by decide +kernel), List.mem_of_getElem? (i := 138) (by decide +kernel)⟩
theorem lw_p1 : lw_okq (⟨"CeilingDispatch", "isReady", "(I)Z"⟩, 7) := ⟨⟨by decide +kernel, by decide +kernel⟩, List.mem_of_getElem? (i := 13) (by decide +kernel), List.mem_of_getElem? (i := 152) (by decide +kernel), List.mem_of_getElem? (i := 153) (by decide +kernel)⟩
theorem lw_p2 : lw_okq (⟨"CeilingDispatch", "longestBlockingAt", "(I)I"⟩, 7) := ⟨⟨by decide +kernel, by decide +kernel⟩, List.mem_of_getElem? (i := 13) (by decide +kernel), List.mem_of_getElem? (i := 179) (by decide +kernel), List.mem_of_getElem? (i := 180) (by decide +kernel)⟩
theorem lw_p3 : lw_okq (⟨"CeilingDispatch", "longestUseOfCeiling", "(LCeilingDispatch$Task;I)I"⟩, 7) := ⟨⟨by decide +kernel, by decide +kernel⟩, List.mem_of_getElem? (i := 13) (by decide +kernel), List.mem_of_getElem? (i := 183) (by decide +kernel), List.mem_of_getElem? (i := 184) (by decide +kernel)⟩
theorem lw_p4 : lw_okq (⟨"CeilingDispatch", "demandOfOthers", "(II)I"⟩, 7) := ⟨⟨by decide +kernel, by decide +kernel⟩, List.mem_of_getElem? (i := 13) (by decide +kernel), List.mem_of_getElem? (i := 194) (by decide +kernel), List.mem_of_getElem? (i := 195) (by decide +kernel)⟩
theorem lw_p5 : lw_okq (⟨"java/lang/Throwable", "fillInStackTrace", "(I)Ljava/lang/Throwable;"⟩, 6) := ⟨⟨by decide +kernel, by decide +kernel⟩, List.mem_of_getElem? (i := 264) (by decide +kernel), List.mem_of_getElem? (i := 262) (by decide +kernel), List.mem_of_getElem? (i := 263) (by decide +kernel)⟩
theorem lw_p6 : lw_okq (⟨"CeilingDispatch", "greatestBaseOfUsers", "(I)I"⟩, 7) := ⟨⟨by decide +kernel, by decide +kernel⟩, List.mem_of_getElem? (i := 13) (by decide +kernel), List.mem_of_getElem? (i := 326) (by decide +kernel), List.mem_of_getElem? (i := 327) (by decide +kernel)⟩
theorem lw_p7 : lw_okq (⟨"CeilingDispatch", "countDeclared", "()I"⟩, 7) := ⟨⟨by decide +kernel, by decide +kernel⟩, List.mem_of_getElem? (i := 13) (by decide +kernel), List.mem_of_getElem? (i := 334) (by decide +kernel), List.mem_of_getElem? (i := 335) (by decide +kernel)⟩
theorem lw_p8 : lw_okq (⟨"CeilingDispatch", "happened", "(III)V"⟩, 7) := ⟨⟨by decide +kernel, by decide +kernel⟩, List.mem_of_getElem? (i := 13) (by decide +kernel), List.mem_of_getElem? (i := 351) (by decide +kernel), List.mem_of_getElem? (i := 352) (by decide +kernel)⟩
theorem lw_p9 : lw_okq (⟨"CeilingDispatch", "mostUrgent", "()I"⟩, 7) := ⟨⟨by decide +kernel, by decide +kernel⟩, List.mem_of_getElem? (i := 13) (by decide +kernel), List.mem_of_getElem? (i := 360) (by decide +kernel), List.mem_of_getElem? (i := 361) (by decide +kernel)⟩
theorem lw_p10 : lw_okq (⟨"CeilingDispatch", "isHeld", "(I)Z"⟩, 7) := ⟨⟨by decide +kernel, by decide +kernel⟩, List.mem_of_getElem? (i := 13) (by decide +kernel), List.mem_of_getElem? (i := 371) (by decide +kernel), List.mem_of_getElem? (i := 372) (by decide +kernel)⟩
theorem lw_p11 : lw_okq (⟨"CeilingDispatch", "delayMoreUrgentThan", "(II)V"⟩, 7) := ⟨⟨by decide +kernel, by decide +kernel⟩, List.mem_of_getElem? (i := 13) (by decide +kernel), List.mem_of_getElem? (i := 402) (by decide +kernel), List.mem_of_getElem? (i := 403) (by decide +kernel)⟩
theorem lw_p12 : lw_okq (⟨"CeilingDispatchModel", "isDeclared", "(I)Z"⟩, 18) := ⟨⟨by decide +kernel, by decide +kernel⟩, List.mem_of_getElem? (i := 406) (by decide +kernel), List.mem_of_getElem? (i := 478) (by decide +kernel), List.mem_of_getElem? (i := 479) (by decide +kernel)⟩
theorem lw_p13 : lw_okq (⟨"CeilingDispatchModel", "refuses", "(ZZ)Z"⟩, 18) := ⟨⟨by decide +kernel, by decide +kernel⟩, List.mem_of_getElem? (i := 406) (by decide +kernel), List.mem_of_getElem? (i := 482) (by decide +kernel), List.mem_of_getElem? (i := 483) (by decide +kernel)⟩
theorem lw_p14 : lw_okq (⟨"CeilingDispatchModel", "isReady", "(I)Z"⟩, 18) := ⟨⟨by decide +kernel, by decide +kernel⟩, List.mem_of_getElem? (i := 406) (by decide +kernel), List.mem_of_getElem? (i := 501) (by decide +kernel), List.mem_of_getElem? (i := 502) (by decide +kernel)⟩
theorem lw_p15 : lw_okq (⟨"CeilingDispatchModel", "runner", "()I"⟩, 18) := ⟨⟨by decide +kernel, by decide +kernel⟩, List.mem_of_getElem? (i := 406) (by decide +kernel), List.mem_of_getElem? (i := 505) (by decide +kernel), List.mem_of_getElem? (i := 506) (by decide +kernel)⟩
def lw_privs_1 : List (MethodName × Nat) := [(⟨"CeilingDispatch", "isDeclared", "(I)Z"⟩, 7), (⟨"CeilingDispatch", "isReady", "(I)Z"⟩, 7), (⟨"CeilingDispatch", "longestBlockingAt", "(I)I"⟩, 7), (⟨"CeilingDispatch", "longestUseOfCeiling", "(LCeilingDispatch$Task;I)I"⟩, 7), (⟨"CeilingDispatch", "demandOfOthers", "(II)I"⟩, 7), (⟨"java/lang/Throwable", "fillInStackTrace", "(I)Ljava/lang/Throwable;"⟩, 6), (⟨"CeilingDispatch", "greatestBaseOfUsers", "(I)I"⟩, 7), (⟨"CeilingDispatch", "countDeclared", "()I"⟩, 7), (⟨"CeilingDispatch", "happened", "(III)V"⟩, 7), (⟨"CeilingDispatch", "mostUrgent", "()I"⟩, 7), (⟨"CeilingDispatch", "isHeld", "(I)Z"⟩, 7), (⟨"CeilingDispatch", "delayMoreUrgentThan", "(II)V"⟩, 7), (⟨"CeilingDispatchModel", "isDeclared", "(I)Z"⟩, 18), (⟨"CeilingDispatchModel", "refuses", "(ZZ)Z"⟩, 18), (⟨"CeilingDispatchModel", "isReady", "(I)Z"⟩, 18), (⟨"CeilingDispatchModel", "runner", "()I"⟩, 18)]
theorem lw_r1 : ∀ q ∈ lw_privs_1, lw_okq q := List.forall_mem_cons.mpr ⟨lw_p0, List.forall_mem_cons.mpr ⟨lw_p1, List.forall_mem_cons.mpr ⟨lw_p2, List.forall_mem_cons.mpr ⟨lw_p3, List.forall_mem_cons.mpr ⟨lw_p4, List.forall_mem_cons.mpr ⟨lw_p5, List.forall_mem_cons.mpr ⟨lw_p6, List.forall_mem_cons.mpr ⟨lw_p7, List.forall_mem_cons.mpr ⟨lw_p8, List.forall_mem_cons.mpr ⟨lw_p9, List.forall_mem_cons.mpr ⟨lw_p10, List.forall_mem_cons.mpr ⟨lw_p11, List.forall_mem_cons.mpr ⟨lw_p12, List.forall_mem_cons.mpr ⟨lw_p13, List.forall_mem_cons.mpr ⟨lw_p14, List.forall_mem_cons.mpr ⟨lw_p15, fun _ h => absurd h List.not_mem_nil⟩⟩⟩⟩⟩⟩⟩⟩⟩⟩⟩⟩⟩⟩⟩⟩
theorem lw_p16 : lw_okq (⟨"CeilingDispatchModel", "isFirst", "(II)Z"⟩, 18) := ⟨⟨by decide +kernel, by decide +kernel⟩, List.mem_of_getElem? (i := 406) (by decide +kernel), List.mem_of_getElem? (i := 509) (by decide +kernel), List.mem_of_getElem? (i := 510) (by decide +kernel)⟩
theorem lw_p17 : lw_okq (⟨"CeilingDispatchModel", "tell", "(IIII)V"⟩, 18) := ⟨⟨by decide +kernel, by decide +kernel⟩, List.mem_of_getElem? (i := 406) (by decide +kernel), List.mem_of_getElem? (i := 513) (by decide +kernel), List.mem_of_getElem? (i := 514) (by decide +kernel)⟩
theorem lw_p18 : lw_okq (⟨"CeilingDispatchModel", "add", "(III)V"⟩, 18) := ⟨⟨by decide +kernel, by decide +kernel⟩, List.mem_of_getElem? (i := 406) (by decide +kernel), List.mem_of_getElem? (i := 517) (by decide +kernel), List.mem_of_getElem? (i := 518) (by decide +kernel)⟩
theorem lw_p19 : lw_okq (⟨"CeilingDispatchModel", "top", "(I)I"⟩, 18) := ⟨⟨by decide +kernel, by decide +kernel⟩, List.mem_of_getElem? (i := 406) (by decide +kernel), List.mem_of_getElem? (i := 526) (by decide +kernel), List.mem_of_getElem? (i := 527) (by decide +kernel)⟩
theorem lw_p20 : lw_okq (⟨"CeilingDispatchModel", "latest", "(I)I"⟩, 18) := ⟨⟨by decide +kernel, by decide +kernel⟩, List.mem_of_getElem? (i := 406) (by decide +kernel), List.mem_of_getElem? (i := 534) (by decide +kernel), List.mem_of_getElem? (i := 535) (by decide +kernel)⟩
theorem lw_p21 : lw_okq (⟨"CeilingDispatchModel", "longest", "(I)I"⟩, 18) := ⟨⟨by decide +kernel, by decide +kernel⟩, List.mem_of_getElem? (i := 406) (by decide +kernel), List.mem_of_getElem? (i := 574) (by decide +kernel), List.mem_of_getElem? (i := 575) (by decide +kernel)⟩
theorem lw_p22 : lw_okq (⟨"CeilingDispatchModel", "load", "(II)I"⟩, 18) := ⟨⟨by decide +kernel, by decide +kernel⟩, List.mem_of_getElem? (i := 406) (by decide +kernel), List.mem_of_getElem? (i := 582) (by decide +kernel), List.mem_of_getElem? (i := 583) (by decide +kernel)⟩
def lw_privs_2 : List (MethodName × Nat) := [(⟨"CeilingDispatchModel", "isFirst", "(II)Z"⟩, 18), (⟨"CeilingDispatchModel", "tell", "(IIII)V"⟩, 18), (⟨"CeilingDispatchModel", "add", "(III)V"⟩, 18), (⟨"CeilingDispatchModel", "top", "(I)I"⟩, 18), (⟨"CeilingDispatchModel", "latest", "(I)I"⟩, 18), (⟨"CeilingDispatchModel", "longest", "(I)I"⟩, 18), (⟨"CeilingDispatchModel", "load", "(II)I"⟩, 18)]
theorem lw_r2 : ∀ q ∈ lw_privs_2, lw_okq q := List.forall_mem_cons.mpr ⟨lw_p16, List.forall_mem_cons.mpr ⟨lw_p17, List.forall_mem_cons.mpr ⟨lw_p18, List.forall_mem_cons.mpr ⟨lw_p19, List.forall_mem_cons.mpr ⟨lw_p20, List.forall_mem_cons.mpr ⟨lw_p21, List.forall_mem_cons.mpr ⟨lw_p22, fun _ h => absurd h List.not_mem_nil⟩⟩⟩⟩⟩⟩⟩
def lw_privs : List (MethodName × Nat) := lw_privs_1 ++ (lw_privs_2)
def lw_tbl : List Cond := k2_sels lw_privs ++ tables_1
theorem lw_privs_ok : ∀ q ∈ lw_privs, lw_okq q := by
  show ∀ q ∈ lw_privs_1 ++ (lw_privs_2), lw_okq q
  exact List.forall_mem_append.mpr ⟨lw_r1, lw_r2⟩
/-! ===== BEGIN words of one list among another's, by their places ===== -/
theorem goodIn_r {big : List Cond} (ws : List Cond) (ps : List Nat) (hp : ws = ps.filterMap (fun i => big[i]?)) (h : ws.all goodWord = true) : GoodIn big ws := by
  intro w hw
  have h1 := List.all_eq_true.mp h w hw
  rw [hp] at hw
  obtain ⟨i, -, hi⟩ := List.mem_filterMap.mp hw
  have hm : w ∈ big := by first | exact List.mem_of_getElem? hi | exact List.getElem?_mem hi
  exact ⟨hm, good_of_word h1⟩
theorem goodIn_app {big a b : List Cond} (ha : GoodIn big a) (hb : GoodIn big b) : GoodIn big (a ++ b) := fun w h => (List.mem_append.mp h).elim (ha w) (hb w)
theorem goodIn_ca {big a b : List Cond} {c : Cond} (ha : GoodIn big (c :: a)) (hb : GoodIn big b) : GoodIn big (c :: (a ++ b)) := fun w h => (List.mem_cons.mp h).elim (fun e => ha w (List.mem_cons.mpr (Or.inl e))) (fun h => (List.mem_append.mp h).elim (fun h => ha w (List.mem_cons.mpr (Or.inr h))) (hb w))
theorem goodIn_sub {big ws : List Cond} (hm : ∀ w ∈ ws, w ∈ big) (h : ws.all goodWord = true) : GoodIn big ws := fun w hw => ⟨hm w hw, good_of_word (List.all_eq_true.mp h w hw)⟩
/-! ===== END ===== -/

/-! ===== BEGIN exceptions that leave a method, and their catching by the caller (launches without stack traces) ===== -/
section VXA
/-! The laws vx_back, vx_callV, vx_callS, vx_callSW, vx_throw0, vx_throwS follow proofs of the library, with one case more: JvmDerived/Free/Laws.lean (Back.of_free), Shelf42/LK1.lean (callV, callS), Shelf/KitTraced.lean (throwNew0V, throwNewS). -/
/-- where a method has thrown q: the class by its name, the cell, what was written, the world -/
def vx_T (XC : String → State → State → Prop) (st : State) (q : Addr) (t : State) (mc ms : Nat) (free : Addr → Prop) : Prop :=
  ∃ (E : String) (ce : Cell) (L : List Loc), XC E st t ∧ t.heap[q]? = some ce ∧ ce.vm = .none ∧ st.vm.findClass E = some ce.cls ∧ st.WarmedH t.vm ∧ st.sameButNew ({ t with vm := st.vm } : State) L mc ms ∧ ∀ z ∈ L, free z.base
def vx_Q (Qc : Array Value → State → Outcome → State → Prop) (XC : String → State → State → Prop) (mc ms : Nat) (free : Addr → Prop) : Array Value → State → Outcome → State → Prop := fun a st o t =>
  (Qc a st o t ∧ ∃ L, FrameEnd st o t L mc ms ∧ ∀ q ∈ L, free q.base) ∨ ∃ q, o = .threw q ∧ vx_T XC st q t mc ms free
/-- a callee that returns or throws -/
def vx_Met (l : Launch) (y : MethodName) (ws : List Cond) (rm : Room) (Pc : Array Value → State → Prop) (Qc : Array Value → State → Outcome → State → Prop) (XC : String → State → State → Prop) (mc ms : Nat) (free : Addr → Prop) : Prop :=
  MetFree l y (headSpec ws rm) Pc (fun _ _ _ _ _ => True) (vx_Q Qc XC mc ms free)
def vx_Post (XC : String → State → State → Prop) (mc ms : Nat) (free : Addr → Prop) : Pt → Array Value → Addr → Pt → Prop := fun A a q B =>
  ∃ (g : JFrame) (mk : MethodId) (t : State) (L : List Loc) (E : String) (ce : Cell), B.U.heap = t.heap ∧ B.U.vm = t.vm ∧ XC E (A.U.calling g mk a) t ∧ t.heap[q]? = some ce ∧ ce.vm = .none ∧ A.U.vm.findClass E = some ce.cls ∧ B.locs = A.locs ++ L ∧ (∀ z ∈ L, free z.base) ∧ B.cells = A.cells + mc ∧ B.slots = A.slots + ms
def vx_Back (l : Launch) (R : Room) (p : Program) (e : Env) (below : List Frame) (s : State) (sargs : Array Value) (y : MethodName) (len W9 : Nat)
    (Pre : Pt → Array Value → Prop) (Post : Pt → Array Value → Option Value → Pt → Prop) (PostX : Pt → Array Value → Addr → Pt → Prop) : Prop :=
  ∀ (m : MethodId) (meth : Method) (c : Code) (A : Pt) (g : JFrame) (ig : Instr) (mk : MethodId) (a : Array Value),
    Stand p l e R s m sargs below meth c A.U A.locs A.cells A.slots → g.method = m → g.locals.size = c.maxLocals → decode c.code g.pc = .ok (ig, len) →
    2 * g.monitorRoom + (g.stack.map fun v => v.category).sum ≤ W9 → A.U.methodNamed? y = some mk → Pre A a →
    (∃ (v : Option Value) (B : Pt), Stand p l e R s m sargs below meth c B.U B.locs B.cells B.slots ∧ Post A a v B ∧
      Steps p.tables e below (doInvoke e (A.U.setTop g) [] mk a).1 (B.U.setTop { g with pc := g.pc + len, stack := v.toList ++ g.stack })) ∨
    (∃ (q : Addr) (B : Pt), Stand p l e R s m sargs below meth c B.U B.locs B.cells B.slots ∧ PostX A a q B ∧
      Steps p.tables e below (doInvoke e (A.U.setTop g) [] mk a).1 ((B.U.setTop g).pushFrame (.throwing q)))
section Payer
variable {l : Launch} {R : Room} {p : Program} {e : Env} {below : List Frame} {s : State} {sargs : Array Value} {y : MethodName} {len W9 : Nat}
theorem vx_back {ws : List Cond} {rm : Room} {Pc : Array Value → State → Prop} {Qc : Array Value → State → Outcome → State → Prop} {XC : String → State → State → Prop} {mc ms : Nat} {free : Addr → Prop} {bytes : ByteArray} {maxL : Nat} {ret : Option FieldType}
    (hM : vx_Met l y ws rm Pc Qc XC mc ms free) (hblind : FrameBlind Pc) (hrc : rm.cells = mc) (hrs : rm.slots = ms)
    (hframes : rm.frames + 1 ≤ R.frames) (hlocals : W9 + (maxL + 11) + rm.locals ≤ R.locals)
    (hws : ∀ w ∈ ws, ∀ a' U, s.WarmedH U.vm → w.before a' U = true) (hcode : Cond.code y bytes maxL ret ∈ ws) (hinit : ∀ a' U, s.WarmedH U.vm → (Cond.initialized y.cls).before a' U = true) :
    vx_Back l R p e below s sargs y len W9 (PreOf R mc ms Pc) (PostOf Qc mc ms free) (vx_Post XC mc ms free) := by
  intro m meth c A g ig mk a X hg hsize hdg hW hn hp
  have h1 : (headSpec ws rm).pre.before a A.U = true := atoms_intro fun w hw => hws w hw _ _ X.warmed
  have h2 : (Cond.code y bytes maxL ret).before a A.U = true := hws _ hcode _ _ X.warmed
  have h3 : (Cond.initialized y.cls).before a A.U = true := hinit _ _ X.warmed
  have h4 : A.cells + (headSpec ws rm).room.cells ≤ R.cells := by rw [show (headSpec ws rm).room.cells = mc from hrc]; exact hp.1
  have h5 : A.slots + (headSpec ws rm).room.slots ≤ R.slots := by rw [show (headSpec ws rm).room.slots = ms from hrs]; exact hp.2.1
  have hPc : Pc a (A.U.calling g mk a) := hblind _ _ _ _ hp.2.2
  obtain ⟨U, Ls, c0, s0⟩ := A
  dsimp only [Pt.U, Pt.locs, Pt.cells, Pt.slots] at h1 h2 h3 h4 h5 X hn hPc ⊢
  obtain ⟨methY, cY, hmY, hcY, -, hlY, -, -, -, -⟩ := Cond.code_spec hn h2
  obtain ⟨kY, hkY, -⟩ := className_of_methodNamed hn
  have hinitY : kY.init = .initialized := Cond.initialized_spec (findClass_of_methodNamed hn) hkY h3
  have h : At U g.method c below := by rw [hg]; exact X.here
  have hlocals9 : W9 + (maxL + 11) + (headSpec ws rm).room.locals ≤ R.locals := hlocals
  have happ : (headSpec ws rm).appliesLoose y e.platform (U.calling g mk a) = true :=
    Spec.appliesLoose_calling (g := g) h hdg hn hkY hinitY
      (X.room_calling (g := g) (R' := (headSpec ws rm).room) hsize hmY hcY hframes (by rw [hlY]; omega) h4 h5) h1
  obtain ⟨mid, hmid⟩ := h.above
  have hfr : (U.setTop g).frames = (.java g :: mid) ++ below := by rw [State.frames_setTop' g h.top, hmid]; rfl
  obtain ⟨o, s₂, hsteps, -, hend, hq⟩ := Steps.callFree hM p X.admits X.cas X.clock (acts := []) hfr happ hPc trivial
  have hq' : vx_Q Qc XC mc ms free a (U.calling g mk a) o s₂ := hq
  rw [State.frames_setTop' g h.top] at hend
  obtain ⟨g₀, hg0⟩ := Option.isSome_iff_exists.mp h.top
  obtain ⟨r, hr⟩ := State.topJava?_eq_some.mp hg0
  have hr' : (({ U with heap := s₂.heap, slotsUsed := s₂.slotsUsed } : State).setVm s₂.vm).frames = .java g₀ :: r := hr
  rcases hq' with ⟨hqc, L, hfe, hL⟩ | ⟨q, rfl, E, ce, L, hx, hce, hcv, hcl, hW₂, hsm, hL⟩
  · obtain ⟨⟨v, rfl⟩, hW₂, e2, q2, q3, q4, q5, q6⟩ := id hfe
    have e3 : s₂ = ({ (U.calling g mk a).setFrames s₂.frames with heap := s₂.heap, slotsUsed := s₂.slotsUsed } : State).setVm s₂.vm := by
      have : s₂ = ({ s₂ with vm := (U.calling g mk a).vm } : State).setVm s₂.vm := rfl
      rw [e2] at this
      exact this
    obtain ⟨c₂, i₂, len₂, hc₂, hd₂, hf₂⟩ := hend
    have hW' : U.WarmedH s₂.vm := hW₂
    have hcc : c₂ = c := by
      have h1 : s₂.code? g.method = U.code? g.method := by
        rw [State.code?_eq, State.code?_eq, hW'.alike.method?]
      exact Option.some.inj (hc₂.symm.trans (h1.trans h.code))
    subst hcc
    have hlen : len₂ = len := by rw [hdg] at hd₂; cases hd₂; rfl
    subst hlen
    have hs₂ : s₂ = (({ U with heap := s₂.heap, slotsUsed := s₂.slotsUsed } : State).setVm s₂.vm).setTop { g with pc := g.pc + len₂, stack := v.toList ++ g.stack } := by
      refine e3.trans ?_
      rw [hf₂, State.calling_eq h.top, State.setFrames_setFrames, State.setTop_of_frames _ hr', hr]
      rfl
    have hsame : U.sameButNew ({ U with heap := s₂.heap, slotsUsed := s₂.slotsUsed } : State) L mc ms := by
      refine ⟨?_, q2, q3, q4, q5, q6⟩
      obtain ⟨t, ht, -⟩ := State.frames_cons hr
      show ({ U with heap := s₂.heap, slotsUsed := s₂.slotsUsed } : State) = { U.setFrames U.frames with heap := s₂.heap, slotsUsed := s₂.slotsUsed }
      rw [State.setFrames_self ht]
    subst hg
    refine Or.inl ⟨v, ⟨(({ U with heap := s₂.heap, slotsUsed := s₂.slotsUsed } : State).setVm s₂.vm), Ls ++ L, c0 + mc, s0 + ms⟩,
      ⟨X.admits, X.cas, X.clock, X.frames, X.room, X.hears, X.method, X.code, (X.here.setHeapUsed s₂.heap s₂.slotsUsed).setVm hW'.alike, X.tail, State.WarmedH.trans X.warmed hW', X.limits, X.bytes, X.same.trans (hsame.setVm s.vm)⟩,
      ⟨g, mk, s₂, L, rfl, rfl, hqc, rfl, hL, rfl, rfl⟩, ?_⟩
    show Steps p.tables e below _ ((({ U with heap := s₂.heap, slotsUsed := s₂.slotsUsed } : State).setVm s₂.vm).setTop { g with pc := g.pc + len₂, stack := v.toList ++ g.stack })
    rw [← hs₂]
    exact hsteps
  · obtain ⟨e2, q2, q3, q4, q5, q6⟩ := id hsm
    have e3 : s₂ = ({ (U.calling g mk a).setFrames s₂.frames with heap := s₂.heap, slotsUsed := s₂.slotsUsed } : State).setVm s₂.vm := by
      have : s₂ = ({ s₂ with vm := (U.calling g mk a).vm } : State).setVm s₂.vm := rfl
      rw [e2] at this
      exact this
    have hf₂ : s₂.frames = .throwing q :: .java g :: U.frames.tail := hend
    have hW' : U.WarmedH s₂.vm := hW₂
    have hs₂ : s₂ = ((({ U with heap := s₂.heap, slotsUsed := s₂.slotsUsed } : State).setVm s₂.vm).setTop g).pushFrame (.throwing q) := by
      refine e3.trans ?_
      rw [hf₂, State.calling_eq h.top, State.setFrames_setFrames, State.pushFrame, State.frames_setTop _ hr', State.setTop_of_frames _ hr', State.setFrames_setFrames, hr]
      rfl
    have hsame : U.sameButNew ({ U with heap := s₂.heap, slotsUsed := s₂.slotsUsed } : State) L mc ms := by
      refine ⟨?_, q2, q3, q4, q5, q6⟩
      obtain ⟨t, ht, -⟩ := State.frames_cons hr
      show ({ U with heap := s₂.heap, slotsUsed := s₂.slotsUsed } : State) = { U.setFrames U.frames with heap := s₂.heap, slotsUsed := s₂.slotsUsed }
      rw [State.setFrames_self ht]
    subst hg
    refine Or.inr ⟨q, ⟨(({ U with heap := s₂.heap, slotsUsed := s₂.slotsUsed } : State).setVm s₂.vm), Ls ++ L, c0 + mc, s0 + ms⟩,
      ⟨X.admits, X.cas, X.clock, X.frames, X.room, X.hears, X.method, X.code, (X.here.setHeapUsed s₂.heap s₂.slotsUsed).setVm hW'.alike, X.tail, State.WarmedH.trans X.warmed hW', X.limits, X.bytes, X.same.trans (hsame.setVm s.vm)⟩,
      ⟨g, mk, s₂, L, E, ce, rfl, rfl, hx, hce, hcv, hcl, rfl, hL, rfl, rfl⟩, ?_⟩
    show Steps p.tables e below _ (((({ U with heap := s₂.heap, slotsUsed := s₂.slotsUsed } : State).setVm s₂.vm).setTop g).pushFrame (.throwing q))
    rw [← hs₂]
    exact hsteps
end Payer
section Calls
variable {p : Program} {l : Launch} {e : Env} {R : Room} {s : State} {m : MethodId} {args : Array Value} {below : List Frame} {meth : Method} {c : Code} {T : State} {locs : List Loc} {cells slots : Nat}
theorem vx_callV (X : Stand p l e R s m args below meth c T locs cells slots) (hexec : p.tables.exec = Jvm.exec) {own C : String} {index : Nat} {y : MethodName} {bytes : ByteArray} {maxL : Nat} {ret : Option FieldType}
    (hown : s.vm.findClass own = some m.cls) (hlink : (Cond.methodLink own index y).before args s = true) (hinst : (Cond.instanceMethod y).before args s = true) (hsel : (Cond.selects C y y).before args s = true)
    (hcode : (Cond.code y bytes maxL ret).before args s = true) (hy : y.cls ≠ "java/lang/invoke/MethodHandle" ∧ y.cls ≠ "java/lang/invoke/VarHandle")
    {W9 : Nat} {Pre : Pt → Array Value → Prop} {Post : Pt → Array Value → Option Value → Pt → Prop} {PostX : Pt → Array Value → Addr → Pt → Prop} (hK : vx_Back l R p e below s args y 3 W9 Pre Post PostX)
    {b : Addr} {cellB : Cell} (hcell : T.heap[b]? = some cellB) (hobj : cellB.vm.isStatics = false) (hcls : s.vm.findClass C = some cellB.cls)
    {g : JFrame} (hg : g.method = m) (hsize : g.locals.size = c.maxLocals) {argsL rest : List Value} (hlen : ∀ sig, parseMethodDescriptor y.desc = some sig → argsL.length = sig.parameters.length)
    (hstack : g.stack = argsL.reverse ++ .ref b :: rest) (hW : 2 * g.monitorRoom + (rest.map fun v => v.category).sum ≤ W9) (hdg : decode c.code g.pc = .ok (.invokevirtual index, 3))
    (hpre : ∀ vm₁, s.WarmedH vm₁ → Pre ⟨T.setVm vm₁, locs, cells, slots⟩ (Value.ref b :: argsL).toArray) :
    (∃ (v : Option Value) (vm₁ : Vm) (B : Pt), s.WarmedH vm₁ ∧ Stand p l e R s m args below meth c B.U B.locs B.cells B.slots ∧ Post ⟨T.setVm vm₁, locs, cells, slots⟩ (Value.ref b :: argsL).toArray v B ∧
      ∀ target, Steps p.tables e below (B.U.setTop { g with pc := g.pc + 3, stack := v.toList ++ rest }) target → Steps p.tables e below (T.setTop g) target) ∨
    (∃ (q : Addr) (vm₁ : Vm) (B : Pt), s.WarmedH vm₁ ∧ Stand p l e R s m args below meth c B.U B.locs B.cells B.slots ∧ PostX ⟨T.setVm vm₁, locs, cells, slots⟩ (Value.ref b :: argsL).toArray q B ∧
      Steps p.tables e below (T.setTop g) ((B.U.setTop { g with stack := rest }).pushFrame (.throwing q))) := by
  obtain ⟨mk, methM, hnamed, hmethM, hstM, habM⟩ := Cond.instanceMethod_spec hinst
  obtain ⟨methM', cM, hmethM', -, -, -, -, -, -, hsigM⟩ := Cond.code_spec hnamed hcode
  cases hmethM.symm.trans hmethM'
  obtain ⟨c2, r2, m2, q1, q2, q3, q4, kP, hkP, hkPi⟩ := Cond.selects_spec hsel
  cases hcls.symm.trans q1
  cases (State.methodFound?_of_named hnamed hy).symm.trans q2
  cases hnamed.symm.trans q3
  have hselP : selectMethod e.platform s.vm cellB.cls mk = .method mk := by rw [Launch.admits_selectMethod X.admits]; exact q4
  obtain ⟨vm₁, X₁, hstep₁⟩ := X.invokevirtual hexec hown hlink hnamed hmethM hstM hkP hkPi hy (a := b) (cell := cellB) hcell
    (fun z h => by rw [h] at hobj; cases hobj) hselP hmethM habM hkP hkPi (g := g) hg (argsL := argsL) (rest := rest) (hlen _ hsigM) hstack hdg
  rcases hK m meth c ⟨T.setVm vm₁, locs, cells, slots⟩ { g with stack := rest } (.invokevirtual index) mk (Value.ref b :: argsL).toArray X₁ hg hsize hdg hW (X₁.named hnamed) (hpre vm₁ X₁.warmed) with ⟨v, B, X', hpost, hsteps⟩ | ⟨q, B, X', hpost, hsteps⟩
  · exact Or.inl ⟨v, vm₁, B, X₁.warmed, X', hpost, fun target h => hstep₁ _ fun acts => by rw [doInvoke_state]; exact hsteps.trans h⟩
  · exact Or.inr ⟨q, vm₁, B, X₁.warmed, X', hpost, hstep₁ _ fun acts => by rw [doInvoke_state]; exact hsteps⟩
theorem vx_callS (X : Stand p l e R s m args below meth c T locs cells slots) (hexec : p.tables.exec = Jvm.exec) {own : String} {index : Nat} {y : MethodName} {bytes : ByteArray} {maxL : Nat} {ret : Option FieldType}
    (hown : s.vm.findClass own = some m.cls) (hlink : (Cond.methodLink own index y).before args s = true) (hstat : (Cond.static y).before args s = true) (hinit : (Cond.initialized y.cls).before args s = true)
    (hcode : (Cond.code y bytes maxL ret).before args s = true) (hy : y.cls ≠ "java/lang/invoke/MethodHandle" ∧ y.cls ≠ "java/lang/invoke/VarHandle")
    {W9 : Nat} {Pre : Pt → Array Value → Prop} {Post : Pt → Array Value → Option Value → Pt → Prop} {PostX : Pt → Array Value → Addr → Pt → Prop} (hK : vx_Back l R p e below s args y 3 W9 Pre Post PostX)
    {g : JFrame} (hg : g.method = m) (hsize : g.locals.size = c.maxLocals) {argsL rest : List Value} (hlen : ∀ sig, parseMethodDescriptor y.desc = some sig → argsL.length = sig.parameters.length)
    (hstack : g.stack = argsL.reverse ++ rest) (hW : 2 * g.monitorRoom + (rest.map fun v => v.category).sum ≤ W9) (hdg : decode c.code g.pc = .ok (.invokestatic index, 3))
    (hpre : ∀ vm₁, s.WarmedH vm₁ → Pre ⟨T.setVm vm₁, locs, cells, slots⟩ argsL.toArray) :
    (∃ (v : Option Value) (vm₁ : Vm) (B : Pt), s.WarmedH vm₁ ∧ Stand p l e R s m args below meth c B.U B.locs B.cells B.slots ∧ Post ⟨T.setVm vm₁, locs, cells, slots⟩ argsL.toArray v B ∧
      ∀ target, Steps p.tables e below (B.U.setTop { g with pc := g.pc + 3, stack := v.toList ++ rest }) target → Steps p.tables e below (T.setTop g) target) ∨
    (∃ (q : Addr) (vm₁ : Vm) (B : Pt), s.WarmedH vm₁ ∧ Stand p l e R s m args below meth c B.U B.locs B.cells B.slots ∧ PostX ⟨T.setVm vm₁, locs, cells, slots⟩ argsL.toArray q B ∧
      Steps p.tables e below (T.setTop g) ((B.U.setTop { g with stack := rest }).pushFrame (.throwing q))) := by
  obtain ⟨mk, hnamed⟩ := Cond.code_named hcode
  obtain ⟨methM, cM, hmethM, -, -, -, -, -, -, hsigM⟩ := Cond.code_spec hnamed hcode
  have hstatic : methM.isStatic = true := Cond.static_spec hnamed hmethM hstat
  obtain ⟨kP, hkP, -⟩ := className_of_methodNamed hnamed
  have hinitP : kP.init = .initialized := Cond.initialized_spec (findClass_of_methodNamed hnamed) hkP hinit
  obtain ⟨vm₁, X₁, hstep₁⟩ := X.invokestatic hexec hown hlink hnamed hmethM hstatic hkP hinitP hy (g := g) hg (argsL := argsL) (rest := rest) (hlen _ hsigM) hstack hdg
  rcases hK m meth c ⟨T.setVm vm₁, locs, cells, slots⟩ { g with stack := rest } (.invokestatic index) mk argsL.toArray X₁ hg hsize hdg hW (X₁.named hnamed) (hpre vm₁ X₁.warmed) with ⟨v, B, X', hpost, hsteps⟩ | ⟨q, B, X', hpost, hsteps⟩
  · exact Or.inl ⟨v, vm₁, B, X₁.warmed, X', hpost, fun target h => hstep₁ _ fun acts => by rw [doInvoke_state]; exact hsteps.trans h⟩
  · exact Or.inr ⟨q, vm₁, B, X₁.warmed, X', hpost, hstep₁ _ fun acts => by rw [doInvoke_state]; exact hsteps⟩
end Calls
theorem vx_cls {s : State} {T : State} {vm₁ : Vm} {E : String} {k : ClassId} (hW : s.WarmedH vm₁) (h : (T.setVm vm₁).vm.findClass E = some k) : s.vm.findClass E = some k := by
  have h1 : vm₁.findClass E = some k := h
  rw [hW.alike.findClass] at h1
  exact h1
/-- the method's frame g, with q thrown over it -/
def vx_W (p : Program) (l : Launch) (e : Env) (R : Room) (s : State) (m : MethodId) (args : Array Value) (below : List Frame) (meth : Method) (c : Code) (H : Heap) (locs : List Loc) (cells slots : Nat) (Q : State → Prop) (g : JFrame) (q : Addr) : Prop :=
  ∀ T : State, T.heap = H → Stand p l e R s m args below meth c T locs cells slots → ∃ t, Steps p.tables e below ((T.setTop g).pushFrame (.throwing q)) t ∧ Q t
def vx_Run (p : Program) (l : Launch) (e : Env) (R : Room) (s : State) (m : MethodId) (args : Array Value) (below : List Frame) (meth : Method) (c : Code) (H : Heap) (locs : List Loc) (cells slots mc ms : Nat) (g : JFrame) (rest : List Value) (Qa : State → Outcome → State → Prop) (XC : String → State → State → Prop) (free : Addr → Prop) : Prop :=
  ∀ T : State, T.heap = H → Stand p l e R s m args below meth c T locs cells slots →
    (∃ (v : Option Value) (st₀ t T' : State) (L : List Loc), st₀.heap = H ∧ Stand p l e R s m args below meth c T' (locs ++ L) (cells + mc) (slots + ms) ∧ (∀ q ∈ L, free q.base) ∧ T'.heap = t.heap ∧ T'.vm = t.vm ∧ Qa st₀ (.returned v) t ∧
      Goes p e below T g T' { g with pc := g.pc + 3, stack := v.toList ++ rest }) ∨
    (∃ (q : Addr) (st₀ t T' : State) (L : List Loc) (E : String) (ce : Cell), st₀.heap = H ∧ Stand p l e R s m args below meth c T' (locs ++ L) (cells + mc) (slots + ms) ∧ (∀ z ∈ L, free z.base) ∧ T'.heap = t.heap ∧ T'.vm = t.vm ∧ XC E st₀ t ∧ t.heap[q]? = some ce ∧ ce.vm = .none ∧ s.vm.findClass E = some ce.cls ∧
      Steps p.tables e below (T.setTop g) ((T'.setTop { g with stack := rest }).pushFrame (.throwing q)))
def vx_X {S : Type} (px : S → Prop) (B : String → S → State → Prop) (A : Nat → Prop) : String → State → State → Prop := fun E st t => ∃ u : S, px u ∧ B E u t ∧ va_F A st t
section Runs
variable {p : Program} {l : Launch} {e : Env} {R : Room} {s : State} {m : MethodId} {args : Array Value} {below : List Frame} {meth : Method} {c : Code} {H : Heap} {locs : List Loc} {cells slots : Nat}
variable {y : MethodName} {bytes cc : ByteArray} {maxL nL mc ms n index : Nat} {ret : Option FieldType} {ws : List Cond} {rm : Room} {Pc : Array Value → State → Prop} {Qc : Array Value → State → Outcome → State → Prop} {XC : String → State → State → Prop} {free : Addr → Prop} {Ts : List Cond} {own C : String} {b : Addr} {As rest : List Value} {g : JFrame}
theorem vx_callBack (cb : CallB R s args own index y bytes maxL ret ws rm mc ms n) (hM : vx_Met l y ws rm Pc Qc XC mc ms free) (hbl : FrameBlind Pc) : vx_Back l R p e below s args y 3 8 (PreOf R mc ms Pc) (PostOf Qc mc ms free) (vx_Post XC mc ms free) := by
  obtain ⟨hrc, hrs, hfr, hlo, hws, hcw, -, hini, -⟩ := cb
  exact vx_back (bytes := bytes) (maxL := maxL) (ret := ret) hM hbl hrc hrs hfr hlo hws hcw (fun a' U hW => word_at hW (Or.inl (by first | rfl | simp [Cond.onTables, Cond.keeps, Cond.steady])) hini)
theorem vx_runV (S : CallFix p m c cc nL s args Ts own) (hM : vx_Met l y ws rm Pc Qc XC mc ms free) (cw : CallW R s args own C index y bytes maxL ret ws rm mc ms n) (hp : PreV s H C b Pc As)
    (hg : g.method = m) (hn : As.length = n) (hsize : g.locals.size = nL) (hstack : g.stack = As.reverse ++ .ref b :: rest) (hW : 2 * g.monitorRoom + (rest.map fun v => v.category).sum ≤ 8) (hdg : decode cc g.pc = .ok (.invokevirtual index, 3)) (hf : cells + mc ≤ R.cells ∧ slots + ms ≤ R.slots) :
    vx_Run p l e R s m args below meth c H locs cells slots mc ms g rest (Qc (Value.ref b :: As).toArray) XC free := by
  have hK : vx_Back l R p e below s args y 3 8 (PreOf R mc ms Pc) (PostOf Qc mc ms free) (vx_Post XC mc ms free) := vx_callBack cw.1 hM hp.1
  obtain ⟨⟨-, -, -, -, -, -, hcode, -, hy, hlen, hl⟩, hin, hse⟩ := cw
  obtain ⟨hx, hb, hml, ho, -⟩ := S
  obtain ⟨-, ⟨cellB, hcB, hoB, hclB⟩, hPc⟩ := hp
  intro T hT X
  rcases vx_callV X hx (C := C) (bytes := bytes) (maxL := maxL) (ret := ret) ho hl hin hse hcode hy hK (by rw [hT]; exact hcB) hoB hclB hg (hsize.trans hml.symm) (argsL := As) (rest := rest) (fun sig h => hn.trans (hlen sig h)) hstack hW (by rw [hb]; exact hdg)
    (fun vm₁ hW₁ => ⟨hf.1, hf.2, hPc (T.setVm vm₁) hT hW₁⟩) with ⟨v, vm₁, ⟨U', l2, c2, s2⟩, hW₁, X', ⟨g', mk, t, L, e1, e2, hq, h1, hL, h2, h3⟩, st⟩ | ⟨q, vm₁, ⟨U', l2, c2, s2⟩, hW₁, X', ⟨g', mk, t, L, E, ce, e1, e2, hq, hce, hcv, hcl, h1, hL, h2, h3⟩, st⟩
  · dsimp only [Pt.U, Pt.locs, Pt.cells, Pt.slots] at X' e1 e2 h1 h2 h3 st
    subst h1; subst h2; subst h3
    exact Or.inl ⟨v, (T.setVm vm₁).calling g' mk (Value.ref b :: As).toArray, t, U', L, hT, X', hL, e1, e2, hq, st⟩
  · dsimp only [Pt.U, Pt.locs, Pt.cells, Pt.slots] at X' e1 e2 h1 h2 h3 st hcl
    subst h1; subst h2; subst h3
    exact Or.inr ⟨q, (T.setVm vm₁).calling g' mk (Value.ref b :: As).toArray, t, U', L, E, ce, hT, X', hL, e1, e2, hq, hce, hcv, vx_cls hW₁ hcl, st⟩
theorem vx_runS (S : CallFix p m c cc nL s args Ts own) (hM : vx_Met l y ws rm Pc Qc XC mc ms free) (cw : CallB R s args own index y bytes maxL ret ws rm mc ms n ∧ (Cond.static y).before args s = true) (hp : PreS s H Pc As)
    (hg : g.method = m) (hn : As.length = n) (hsize : g.locals.size = nL) (hstack : g.stack = As.reverse ++ rest) (hW : 2 * g.monitorRoom + (rest.map fun v => v.category).sum ≤ 8) (hdg : decode cc g.pc = .ok (.invokestatic index, 3)) (hf : cells + mc ≤ R.cells ∧ slots + ms ≤ R.slots) :
    vx_Run p l e R s m args below meth c H locs cells slots mc ms g rest (Qc As.toArray) XC free := by
  have hK : vx_Back l R p e below s args y 3 8 (PreOf R mc ms Pc) (PostOf Qc mc ms free) (vx_Post XC mc ms free) := vx_callBack cw.1 hM hp.1
  obtain ⟨⟨-, -, -, -, -, -, hcode, hini, hy, hlen, hl⟩, hstt⟩ := cw
  obtain ⟨hx, hb, hml, ho, -⟩ := S
  intro T hT X
  rcases vx_callS X hx (bytes := bytes) (maxL := maxL) (ret := ret) ho hl hstt hini hcode hy hK hg (hsize.trans hml.symm) (argsL := As) (rest := rest) (fun sig h => hn.trans (hlen sig h)) hstack hW (by rw [hb]; exact hdg)
    (fun vm₁ hW₁ => ⟨hf.1, hf.2, hp.2 (T.setVm vm₁) hT hW₁⟩) with ⟨v, vm₁, ⟨U', l2, c2, s2⟩, hW₁, X', ⟨g', mk, t, L, e1, e2, hq, h1, hL, h2, h3⟩, st⟩ | ⟨q, vm₁, ⟨U', l2, c2, s2⟩, hW₁, X', ⟨g', mk, t, L, E, ce, e1, e2, hq, hce, hcv, hcl, h1, hL, h2, h3⟩, st⟩
  · dsimp only [Pt.U, Pt.locs, Pt.cells, Pt.slots] at X' e1 e2 h1 h2 h3 st
    subst h1; subst h2; subst h3
    exact Or.inl ⟨v, (T.setVm vm₁).calling g' mk As.toArray, t, U', L, hT, X', hL, e1, e2, hq, st⟩
  · dsimp only [Pt.U, Pt.locs, Pt.cells, Pt.slots] at X' e1 e2 h1 h2 h3 st hcl
    subst h1; subst h2; subst h3
    exact Or.inr ⟨q, (T.setVm vm₁).calling g' mk As.toArray, t, U', L, E, ce, hT, X', hL, e1, e2, hq, hce, hcv, vx_cls hW₁ hcl, st⟩
end Runs
section Rows
variable {p : Program} {l : Launch} {e : Env} {R : Room} {s : State} {m : MethodId} {args : Array Value} {below : List Frame} {meth : Method} {c : Code} {H : Heap} {locs : List Loc} {cells slots : Nat} {Q : State → Prop}
variable {mc ms : Nat} {free : Addr → Prop} {A0 A1 : Nat → Prop} {H0 : Heap} {a : Array Value} {pc : Nat} {ls : Array Slot} {st0 rest : List Value}
theorem vx_keep {st₀ t T' : State} {L : List Loc} (h0 : st₀.heap = H) (e1 : T'.heap = t.heap) (hS : va_S A0 H0 H locs) (hA : ∀ q, q < H.size → A1 q → A0 q) (hf : ∀ q, free q → A0 q) (hL : ∀ q ∈ L, free q.base) (hF : va_F A1 st₀ t) :
    H.size ≤ T'.heap.size ∧ (∀ q : Nat, q < H.size → ¬ A1 q → T'.heap[q]? = H[q]?) ∧ va_S A0 H0 T'.heap (locs ++ L) := by
  obtain ⟨hz, hk⟩ := hF
  rw [h0] at hz hk
  exact ⟨by rw [e1]; exact hz, fun q h1 h2 => by rw [e1]; exact hk q h1 h2,
    ⟨Nat.le_trans hS.1 (by rw [e1]; exact hz), fun q h1 h2 => by rw [e1, hk q (Nat.lt_of_lt_of_le h1 hS.1) (fun z => h2 (hA q (Nat.lt_of_lt_of_le h1 hS.1) z))]; exact hS.2.1 q h1 h2, fun q hq => by
      rcases List.mem_append.mp hq with h | h
      · exact hS.2.2 q h
      · exact hf _ (hL q h)⟩⟩
theorem vx_calli {S SX : Type} {post : Int32 → S → Prop} {px : SX → Prop} {B : S → State → Prop} {BX : String → SX → State → Prop} {AX : Nat → Prop} (hr : vx_Run p l e R s m args below meth c H locs cells slots mc ms (F0 m pc ls st0) rest (va_Qi post B A1 a) (vx_X px BX AX) free) (hS : va_S A0 H0 H locs) (hA : ∀ q, q < H.size → A1 q → A0 q) (hf : ∀ q, free q → A0 q) (hAX : ∀ q, q < H.size → AX q → A0 q)
    (kx : ∀ (E : String) (ce : Cell) (q9 : Addr) (u : SX) (t : State) (H1 : Heap) (locs1 : List Loc), t.heap = H1 → s.vm.Alike t.vm → px u → BX E u t → H.size ≤ H1.size → (∀ q : Nat, q < H.size → ¬ AX q → H1[q]? = H[q]?) → va_S A0 H0 H1 locs1 → H1[q9]? = some ce → ce.vm = .none → s.vm.findClass E = some ce.cls → vx_W p l e R s m args below meth c H1 locs1 (cells + mc) (slots + ms) Q (F0 m pc ls rest) q9)
    (kk : ∀ (r : Int32) (u : S) (t : State) (H1 : Heap) (locs1 : List Loc), t.heap = H1 → s.vm.Alike t.vm → post r u → B u t → H.size ≤ H1.size → (∀ q : Nat, q < H.size → ¬ A1 q → H1[q]? = H[q]?) → va_S A0 H0 H1 locs1 → W p l e R s m args below meth c H1 locs1 (cells + mc) (slots + ms) Q (F0 m (pc + 3) ls (.int r :: rest))) : W p l e R s m args below meth c H locs cells slots Q (F0 m pc ls st0) := by
  intro T hT X
  rcases hr T hT X with ⟨v, st₀, t, T', L, h0, X', hL, e1, e2, ⟨⟨r, u, hv, hp, hb⟩, hF⟩, st⟩ | ⟨q, st₀, t, T', L, E, ce, h0, X', hL, e1, e2, ⟨u, hp, hb, hF⟩, hce, hcv, hcl, st⟩
  · cases hv
    obtain ⟨k1, k2, k3⟩ := vx_keep h0 e1 hS hA hf hL hF
    obtain ⟨t2, a1, b1⟩ := kk r u t T'.heap (locs ++ L) e1.symm (by rw [← e2]; exact X'.warmed.alike) hp hb k1 k2 k3 T' rfl X'
    exact ⟨t2, st t2 a1, b1⟩
  · obtain ⟨k1, k2, k3⟩ := vx_keep h0 e1 hS hAX hf hL hF
    obtain ⟨t2, a1, b1⟩ := kx E ce q u t T'.heap (locs ++ L) e1.symm (by rw [← e2]; exact X'.warmed.alike) hp hb k1 k2 k3 (by rw [e1]; exact hce) hcv hcl T' rfl X'
    exact ⟨t2, st.trans a1, b1⟩
theorem vx_calll {S SX : Type} {post : Int64 → S → Prop} {px : SX → Prop} {B : S → State → Prop} {BX : String → SX → State → Prop} {AX : Nat → Prop} (hr : vx_Run p l e R s m args below meth c H locs cells slots mc ms (F0 m pc ls st0) rest (va_Ql post B A1 a) (vx_X px BX AX) free) (hS : va_S A0 H0 H locs) (hA : ∀ q, q < H.size → A1 q → A0 q) (hf : ∀ q, free q → A0 q) (hAX : ∀ q, q < H.size → AX q → A0 q)
    (kx : ∀ (E : String) (ce : Cell) (q9 : Addr) (u : SX) (t : State) (H1 : Heap) (locs1 : List Loc), t.heap = H1 → s.vm.Alike t.vm → px u → BX E u t → H.size ≤ H1.size → (∀ q : Nat, q < H.size → ¬ AX q → H1[q]? = H[q]?) → va_S A0 H0 H1 locs1 → H1[q9]? = some ce → ce.vm = .none → s.vm.findClass E = some ce.cls → vx_W p l e R s m args below meth c H1 locs1 (cells + mc) (slots + ms) Q (F0 m pc ls rest) q9)
    (kk : ∀ (r : Int64) (u : S) (t : State) (H1 : Heap) (locs1 : List Loc), t.heap = H1 → s.vm.Alike t.vm → post r u → B u t → H.size ≤ H1.size → (∀ q : Nat, q < H.size → ¬ A1 q → H1[q]? = H[q]?) → va_S A0 H0 H1 locs1 → W p l e R s m args below meth c H1 locs1 (cells + mc) (slots + ms) Q (F0 m (pc + 3) ls (.long r :: rest))) : W p l e R s m args below meth c H locs cells slots Q (F0 m pc ls st0) := by
  intro T hT X
  rcases hr T hT X with ⟨v, st₀, t, T', L, h0, X', hL, e1, e2, ⟨⟨r, u, hv, hp, hb⟩, hF⟩, st⟩ | ⟨q, st₀, t, T', L, E, ce, h0, X', hL, e1, e2, ⟨u, hp, hb, hF⟩, hce, hcv, hcl, st⟩
  · cases hv
    obtain ⟨k1, k2, k3⟩ := vx_keep h0 e1 hS hA hf hL hF
    obtain ⟨t2, a1, b1⟩ := kk r u t T'.heap (locs ++ L) e1.symm (by rw [← e2]; exact X'.warmed.alike) hp hb k1 k2 k3 T' rfl X'
    exact ⟨t2, st t2 a1, b1⟩
  · obtain ⟨k1, k2, k3⟩ := vx_keep h0 e1 hS hAX hf hL hF
    obtain ⟨t2, a1, b1⟩ := kx E ce q u t T'.heap (locs ++ L) e1.symm (by rw [← e2]; exact X'.warmed.alike) hp hb k1 k2 k3 (by rw [e1]; exact hce) hcv hcl T' rfl X'
    exact ⟨t2, st.trans a1, b1⟩
theorem vx_callf {S SX : Type} {post : UInt32 → S → Prop} {px : SX → Prop} {B : S → State → Prop} {BX : String → SX → State → Prop} {AX : Nat → Prop} (hr : vx_Run p l e R s m args below meth c H locs cells slots mc ms (F0 m pc ls st0) rest (va_Qf post B A1 a) (vx_X px BX AX) free) (hS : va_S A0 H0 H locs) (hA : ∀ q, q < H.size → A1 q → A0 q) (hf : ∀ q, free q → A0 q) (hAX : ∀ q, q < H.size → AX q → A0 q)
    (kx : ∀ (E : String) (ce : Cell) (q9 : Addr) (u : SX) (t : State) (H1 : Heap) (locs1 : List Loc), t.heap = H1 → s.vm.Alike t.vm → px u → BX E u t → H.size ≤ H1.size → (∀ q : Nat, q < H.size → ¬ AX q → H1[q]? = H[q]?) → va_S A0 H0 H1 locs1 → H1[q9]? = some ce → ce.vm = .none → s.vm.findClass E = some ce.cls → vx_W p l e R s m args below meth c H1 locs1 (cells + mc) (slots + ms) Q (F0 m pc ls rest) q9)
    (kk : ∀ (r : UInt32) (u : S) (t : State) (H1 : Heap) (locs1 : List Loc), t.heap = H1 → s.vm.Alike t.vm → post r u → B u t → H.size ≤ H1.size → (∀ q : Nat, q < H.size → ¬ A1 q → H1[q]? = H[q]?) → va_S A0 H0 H1 locs1 → W p l e R s m args below meth c H1 locs1 (cells + mc) (slots + ms) Q (F0 m (pc + 3) ls (.float r :: rest))) : W p l e R s m args below meth c H locs cells slots Q (F0 m pc ls st0) := by
  intro T hT X
  rcases hr T hT X with ⟨v, st₀, t, T', L, h0, X', hL, e1, e2, ⟨⟨r, u, hv, hp, hb⟩, hF⟩, st⟩ | ⟨q, st₀, t, T', L, E, ce, h0, X', hL, e1, e2, ⟨u, hp, hb, hF⟩, hce, hcv, hcl, st⟩
  · cases hv
    obtain ⟨k1, k2, k3⟩ := vx_keep h0 e1 hS hA hf hL hF
    obtain ⟨t2, a1, b1⟩ := kk r u t T'.heap (locs ++ L) e1.symm (by rw [← e2]; exact X'.warmed.alike) hp hb k1 k2 k3 T' rfl X'
    exact ⟨t2, st t2 a1, b1⟩
  · obtain ⟨k1, k2, k3⟩ := vx_keep h0 e1 hS hAX hf hL hF
    obtain ⟨t2, a1, b1⟩ := kx E ce q u t T'.heap (locs ++ L) e1.symm (by rw [← e2]; exact X'.warmed.alike) hp hb k1 k2 k3 (by rw [e1]; exact hce) hcv hcl T' rfl X'
    exact ⟨t2, st.trans a1, b1⟩
theorem vx_calld {S SX : Type} {post : UInt64 → S → Prop} {px : SX → Prop} {B : S → State → Prop} {BX : String → SX → State → Prop} {AX : Nat → Prop} (hr : vx_Run p l e R s m args below meth c H locs cells slots mc ms (F0 m pc ls st0) rest (va_Qd post B A1 a) (vx_X px BX AX) free) (hS : va_S A0 H0 H locs) (hA : ∀ q, q < H.size → A1 q → A0 q) (hf : ∀ q, free q → A0 q) (hAX : ∀ q, q < H.size → AX q → A0 q)
    (kx : ∀ (E : String) (ce : Cell) (q9 : Addr) (u : SX) (t : State) (H1 : Heap) (locs1 : List Loc), t.heap = H1 → s.vm.Alike t.vm → px u → BX E u t → H.size ≤ H1.size → (∀ q : Nat, q < H.size → ¬ AX q → H1[q]? = H[q]?) → va_S A0 H0 H1 locs1 → H1[q9]? = some ce → ce.vm = .none → s.vm.findClass E = some ce.cls → vx_W p l e R s m args below meth c H1 locs1 (cells + mc) (slots + ms) Q (F0 m pc ls rest) q9)
    (kk : ∀ (r : UInt64) (u : S) (t : State) (H1 : Heap) (locs1 : List Loc), t.heap = H1 → s.vm.Alike t.vm → post r u → B u t → H.size ≤ H1.size → (∀ q : Nat, q < H.size → ¬ A1 q → H1[q]? = H[q]?) → va_S A0 H0 H1 locs1 → W p l e R s m args below meth c H1 locs1 (cells + mc) (slots + ms) Q (F0 m (pc + 3) ls (.double r :: rest))) : W p l e R s m args below meth c H locs cells slots Q (F0 m pc ls st0) := by
  intro T hT X
  rcases hr T hT X with ⟨v, st₀, t, T', L, h0, X', hL, e1, e2, ⟨⟨r, u, hv, hp, hb⟩, hF⟩, st⟩ | ⟨q, st₀, t, T', L, E, ce, h0, X', hL, e1, e2, ⟨u, hp, hb, hF⟩, hce, hcv, hcl, st⟩
  · cases hv
    obtain ⟨k1, k2, k3⟩ := vx_keep h0 e1 hS hA hf hL hF
    obtain ⟨t2, a1, b1⟩ := kk r u t T'.heap (locs ++ L) e1.symm (by rw [← e2]; exact X'.warmed.alike) hp hb k1 k2 k3 T' rfl X'
    exact ⟨t2, st t2 a1, b1⟩
  · obtain ⟨k1, k2, k3⟩ := vx_keep h0 e1 hS hAX hf hL hF
    obtain ⟨t2, a1, b1⟩ := kx E ce q u t T'.heap (locs ++ L) e1.symm (by rw [← e2]; exact X'.warmed.alike) hp hb k1 k2 k3 (by rw [e1]; exact hce) hcv hcl T' rfl X'
    exact ⟨t2, st.trans a1, b1⟩
theorem vx_callv {S SX : Type} {post : S → Prop} {px : SX → Prop} {B : S → State → Prop} {BX : String → SX → State → Prop} {AX : Nat → Prop} (hr : vx_Run p l e R s m args below meth c H locs cells slots mc ms (F0 m pc ls st0) rest (va_Qv post B A1 a) (vx_X px BX AX) free) (hS : va_S A0 H0 H locs) (hA : ∀ q, q < H.size → A1 q → A0 q) (hf : ∀ q, free q → A0 q) (hAX : ∀ q, q < H.size → AX q → A0 q)
    (kx : ∀ (E : String) (ce : Cell) (q9 : Addr) (u : SX) (t : State) (H1 : Heap) (locs1 : List Loc), t.heap = H1 → s.vm.Alike t.vm → px u → BX E u t → H.size ≤ H1.size → (∀ q : Nat, q < H.size → ¬ AX q → H1[q]? = H[q]?) → va_S A0 H0 H1 locs1 → H1[q9]? = some ce → ce.vm = .none → s.vm.findClass E = some ce.cls → vx_W p l e R s m args below meth c H1 locs1 (cells + mc) (slots + ms) Q (F0 m pc ls rest) q9)
    (kk : ∀ (u : S) (t : State) (H1 : Heap) (locs1 : List Loc), t.heap = H1 → s.vm.Alike t.vm → post u → B u t → H.size ≤ H1.size → (∀ q : Nat, q < H.size → ¬ A1 q → H1[q]? = H[q]?) → va_S A0 H0 H1 locs1 → W p l e R s m args below meth c H1 locs1 (cells + mc) (slots + ms) Q (F0 m (pc + 3) ls (rest))) : W p l e R s m args below meth c H locs cells slots Q (F0 m pc ls st0) := by
  intro T hT X
  rcases hr T hT X with ⟨v, st₀, t, T', L, h0, X', hL, e1, e2, ⟨⟨u, hv, hp, hb⟩, hF⟩, st⟩ | ⟨q, st₀, t, T', L, E, ce, h0, X', hL, e1, e2, ⟨u, hp, hb, hF⟩, hce, hcv, hcl, st⟩
  · cases hv
    obtain ⟨k1, k2, k3⟩ := vx_keep h0 e1 hS hA hf hL hF
    obtain ⟨t2, a1, b1⟩ := kk u t T'.heap (locs ++ L) e1.symm (by rw [← e2]; exact X'.warmed.alike) hp hb k1 k2 k3 T' rfl X'
    exact ⟨t2, st t2 a1, b1⟩
  · obtain ⟨k1, k2, k3⟩ := vx_keep h0 e1 hS hAX hf hL hF
    obtain ⟨t2, a1, b1⟩ := kx E ce q u t T'.heap (locs ++ L) e1.symm (by rw [← e2]; exact X'.warmed.alike) hp hb k1 k2 k3 (by rw [e1]; exact hce) hcv hcl T' rfl X'
    exact ⟨t2, st.trans a1, b1⟩
/-- caught by the row x of this method's table; the rows ahead don't take it -/
theorem vx_catch {own name : String} {E : String} {ce : Cell} {q : Addr} (hown : s.vm.findClass own = some m.cls) (pre : List ExceptionTableEntry) (x : ExceptionTableEntry) (suf : List ExceptionTableEntry) (hsplit : c.exceptionTable.toList = pre ++ x :: suf)
    (hpass : ∀ z ∈ pre, covers z pc = false ∨ (z.catchType ≠ 0 ∧ ∃ nm : String, (Cond.classLink own z.catchType nm).before args s = true ∧ va_Nc E nm s)) (hx : covers x pc = true) (h0 : x.catchType ≠ 0)
    (hlink : (Cond.classLink own x.catchType name).before args s = true) (hcast : (Cond.castable E name).before args s = true) (hcell : H[q]? = some ce) (hv : ce.vm = .none) (hcl : s.vm.findClass E = some ce.cls)
    (kk : W p l e R s m args below meth c H locs cells slots Q (F0 m x.handlerPc ls [.ref q])) : vx_W p l e R s m args below meth c H locs cells slots Q (F0 m pc ls rest) q := by
  intro T hT X
  have hpl : e.platform.magicAccessors = ({} : Platform).magicAccessors := by rw [X.admits.platform]
  obtain ⟨c3, c4, hc3, hc4, hasg⟩ := Cond.castable_spec hcast
  cases Option.some.inj (hc3.symm.trans hcl)
  obtain ⟨c5, hc5, hcl5⟩ := Cond.classLink_spec hown hlink e.platform hpl
  cases Option.some.inj (hc4.symm.trans hc5)
  obtain ⟨vm', X', st⟩ := X.thenCaughtThrough q (g := F0 m pc ls rest) rfl (Steps.refl _) (by rw [hT]; exact hcell) (by rw [hv]; rfl) (by obtain ⟨k9, h9, -⟩ := Vm.findClass_spec hcl; exact ⟨k9, h9⟩) pre x suf hsplit
    (fun z hz => by
      rcases hpass z hz with h | ⟨hz0, nm, hl1, hn1⟩
      · exact Or.inl h
      · obtain ⟨c6, hc6, hcl6⟩ := Cond.classLink_spec hown hl1 e.platform hpl
        obtain ⟨a8, b8, h1, h2, h3⟩ := hn1
        cases Option.some.inj (h1.symm.trans hcl)
        cases Option.some.inj (h2.symm.trans hc6)
        exact Or.inr ⟨hz0, _, hcl6, h3⟩) hx (Or.inr ⟨h0, c4, hcl5, hasg⟩)
  obtain ⟨t, a1, b1⟩ := kk (T.setVm vm') hT X'
  exact ⟨t, st.trans a1, b1⟩
end Rows
section Ends
variable {p : Program} {l : Launch} {e : Env} {R : Room} {s : State} {m : MethodId} {args : Array Value} {below : List Frame} {meth : Method} {c : Code} {H : Heap} {locs : List Loc} {cells slots : Nat} {Q : State → Prop}
variable {mc ms : Nat} {free : Addr → Prop} {A0 A1 : Nat → Prop} {H0 : Heap} {a : Array Value} {ls : Array Slot} {st0 rest : List Value}
variable {Qc : Array Value → State → Outcome → State → Prop} {XC : String → State → State → Prop}
/-- what a body that may throw owes at its end -/
def vx_MQ (below : List Frame) (Qc : Array Value → State → Outcome → State → Prop) (XC : String → State → State → Prop) (a : Array Value) (s : State) (mc ms : Nat) (free : Addr → Prop) : State → Prop := fun t =>
  ∃ o, t.status = .running ∧ Ended t below o ∧ vx_Q Qc XC mc ms free a s o t
theorem vx_ret {g : JFrame} {mc ms : Nat} (k : W p l e R s m args below meth c H locs cells slots (MQ below Qc args s mc ms free) g) : W p l e R s m args below meth c H locs cells slots (vx_MQ below Qc XC args s mc ms free) g := by
  intro T hT X
  obtain ⟨t, a1, o, b1, b2, b3, b4⟩ := k T hT X
  exact ⟨t, a1, o, b1, b2, Or.inl ⟨b3, b4⟩⟩
/-- not caught here: it goes on to the caller -/
theorem vx_widen {g : JFrame} {q : Addr} {k n : Nat} (h1 : cells ≤ k) (h2 : slots ≤ n) (kk : vx_W p l e R s m args below meth c H locs k n Q g q) : vx_W p l e R s m args below meth c H locs cells slots Q g q := fun T hT X => kk T hT (stand_widen X h1 h2)
theorem vx_out {pc : Nat} {E : String} {ce : Cell} {q : Addr} {mc ms : Nat} (hout : ∀ x ∈ c.exceptionTable.toList, covers x pc = false) (hlocks : meth.locks = false) (hcell : H[q]? = some ce) (hv : ce.vm = .none) (hcl : s.vm.findClass E = some ce.cls)
    (hx : ∀ t : State, t.heap = H → s.vm.Alike t.vm → XC E s t) (hf : ∀ z ∈ locs, free z.base) (hc : cells ≤ mc) (hs : slots ≤ ms) :
    vx_W p l e R s m args below meth c H locs cells slots (vx_MQ below Qc XC args s mc ms free) (F0 m pc ls rest) q := by
  intro T hT X
  obtain ⟨st1, hrun, hend, hW, hsm⟩ := X.leaveThrown q (g := F0 m pc ls rest) rfl rfl rfl hout hlocks
  have hcell9 : (T.setFrames (.throwing q :: below)).heap[q]? = some ce := by
    show T.heap[q]? = some ce
    rw [hT]; exact hcell
  exact ⟨_, st1, .threw q, hrun, hend, Or.inr ⟨q, rfl, E, ce, locs, hx _ hT hW.alike, hcell9, hv, hcl, hW, hsm.mono hc hs, hf⟩⟩
theorem vx_frame {U : State} {k n : Nat} (h : s.sameButNew ({ U with vm := s.vm } : State) locs k n) : s.heap.size ≤ U.heap.size ∧ ∀ q : Nat, q < s.heap.size → (∀ z ∈ locs, z.base ≠ q) → U.heap[q]? = s.heap[q]? := by
  obtain ⟨-, h2, -, -, -, h6⟩ := h
  refine ⟨h2, fun q hq hz => ?_⟩
  obtain ⟨c9, e1, e2, e3, e4⟩ := h6 q _ (Array.getElem?_eq_getElem hq)
  have hs : c9.slots = (s.heap[q]).slots := Array.ext_getElem? fun i => e4 i fun hm => hz _ hm rfl
  have h9 : c9 = s.heap[q] := by
    rw [hs] at e2
    exact e2
  have e5 : U.heap[q]? = some c9 := e1
  rw [e5, h9, Array.getElem?_eq_getElem hq]
/-- the words of a throw but the four that speak of the heap -/
def vx_no (w : Cond) : Bool := decide (w ≠ .isRef (.static Bundle.tN "UNASSIGNED_STACK" Bundle.steD)) && decide (w ≠ .isRef (.static Bundle.tN "SUPPRESSED_SENTINEL" Bundle.listD)) && decide (w ≠ .laysStatic Bundle.tN "UNASSIGNED_STACK" Bundle.steD) && decide (w ≠ .laysStatic Bundle.tN "SUPPRESSED_SENTINEL" Bundle.listD)
def vx_at0 (own : String) (ic : Nat) (X : String) (names : List String) : List Cond := (Bundle.ownAtoms0 own ic X names).filter vx_no
def vx_atS (own : String) (ic : Nat) (X : String) (names : List String) : List Cond := (Bundle.ownAtoms own ic X names).filter vx_no
/-- a word that the tables alone decide, or a good one -/
def vx_ot (w : Cond) : Bool := w.onTables || goodWord w
theorem vx_ot_at {args a' : Array Value} {s U : State} {w : Cond} (hW : s.WarmedH U.vm) (hvm : s.vm = U.vm) (hg : vx_ot w = true) (h : w.before args s = true) : w.before a' U = true := by
  simp only [vx_ot, Bool.or_eq_true] at hg
  rcases hg with hg | hg
  · exact va_tabs hg hvm h
  · exact word_at hW (good_of_word hg) h
/-- a list's words: the good ones out of the method's own list, the others by premises of their own -/
theorem vx_hat {args : Array Value} {s : State} {L B : List Cond} (h1 : ∀ w ∈ L.filter goodWord, w.before args s = true) (h2 : ∀ w ∈ L.filter (fun w => !goodWord w), w ∈ B) (h3 : ∀ w ∈ B, w.before args s = true) : ∀ w ∈ L, w.before args s = true := by
  intro w hw
  by_cases g : goodWord w = true
  · exact h1 w (List.mem_filter.mpr ⟨hw, g⟩)
  · refine h3 w (h2 w (List.mem_filter.mpr ⟨hw, ?_⟩))
    show (!goodWord w) = true
    cases hgw : goodWord w
    · rfl
    · exact absurd hgw g
theorem vx_c {args : Array Value} {s : State} {w : Cond} {B : List Cond} (h : w.before args s = true) (t : ∀ w ∈ B, w.before args s = true) : ∀ w' ∈ w :: B, w'.before args s = true := fun w' h' => (List.mem_cons.mp h').elim (fun e => by rw [e]; exact h) (t w')
theorem vx_n {args : Array Value} {s : State} : ∀ w ∈ ([] : List Cond), w.before args s = true := fun _ h => nomatch h
theorem vx_own {args : Array Value} {s : State} {L : List Cond} (h1 : ∀ w ∈ L.filter vx_no, w.before args s = true)
    (hU : (Cond.isRef (.static Bundle.tN "UNASSIGNED_STACK" Bundle.steD)).before args s = true) (hN : (Cond.isRef (.static Bundle.tN "SUPPRESSED_SENTINEL" Bundle.listD)).before args s = true)
    (lU : (Cond.laysStatic Bundle.tN "UNASSIGNED_STACK" Bundle.steD).before args s = true) (lN : (Cond.laysStatic Bundle.tN "SUPPRESSED_SENTINEL" Bundle.listD).before args s = true) : ∀ w ∈ L, w.before args s = true := by
  intro w hw
  by_cases e1 : w = .isRef (.static Bundle.tN "UNASSIGNED_STACK" Bundle.steD)
  · rw [e1]; exact hU
  · by_cases e2 : w = .isRef (.static Bundle.tN "SUPPRESSED_SENTINEL" Bundle.listD)
    · rw [e2]; exact hN
    · by_cases e3 : w = .laysStatic Bundle.tN "UNASSIGNED_STACK" Bundle.steD
      · rw [e3]; exact lU
      · by_cases e4 : w = .laysStatic Bundle.tN "SUPPRESSED_SENTINEL" Bundle.listD
        · rw [e4]; exact lN
        · exact h1 w (List.mem_filter.mpr ⟨hw, by unfold vx_no; rw [decide_eq_true e1, decide_eq_true e2, decide_eq_true e3, decide_eq_true e4]; rfl⟩)
/-- where a static field lies, its class's statics cell in H -/
def vx_L (C n d : String) (A : Nat → Prop) (U : State) (H : Heap) : Prop := ∃ (c : ClassId) (k : Class) (i : Nat) (f : Field) (a : Nat) (cell : Cell), U.vm.findClass C = some c ∧ U.fieldFound? C n d = some (c, k, i, f) ∧ f.isStatic = true ∧ k.statics = some a ∧ H[a]? = some cell ∧ cell.vm.isStatics = true ∧ cell.cls = c ∧ f.slot < cell.slots.size ∧ k.staticTypes[f.slot]? = some f.type ∧ ¬ A a
theorem vx_L.moved {C n d : String} {A : Nat → Prop} {u U : State} {H : Heap} (hvm : u.vm.Alike U.vm) (h : vx_L C n d A u H) : vx_L C n d A U H := by
  obtain ⟨c, k, i, f, a, cell, h1, h2, h3, h4, h5, h6, h7, h8, h9, h10⟩ := h
  obtain ⟨k', hi', he⟩ := State.fieldFound?_setVm hvm h2
  exact ⟨c, k', i, f, a, cell, by rw [hvm.findClass]; exact h1, hi', h3, by rw [he]; exact h4, h5, h6, h7, h8, by rw [he]; exact h9, h10⟩
theorem vx_L.kept {C n d : String} {A : Nat → Prop} {U : State} {H H1 : Heap} (h : vx_L C n d A U H) (hq : ∀ a : Nat, a < H.size → ¬ A a → H1[a]? = H[a]?) : vx_L C n d A U H1 := by
  obtain ⟨c, k, i, f, a, cell, h1, h2, h3, h4, h5, h6, h7, h8, h9, h10⟩ := h
  exact ⟨c, k, i, f, a, cell, h1, h2, h3, h4, by rw [hq a (Array.getElem?_eq_some_iff.mp h5).1 h10]; exact h5, h6, h7, h8, h9, h10⟩
theorem vx_L.narrow {C n d : String} {A B : Nat → Prop} {U : State} {H : Heap} (h : vx_L C n d A U H) (hAB : ∀ q, B q → A q) : vx_L C n d B U H := by
  obtain ⟨c, k, i, f, a, cell, h1, h2, h3, h4, h5, h6, h7, h8, h9, h10⟩ := h
  exact ⟨c, k, i, f, a, cell, h1, h2, h3, h4, h5, h6, h7, h8, h9, fun z => h10 (hAB _ z)⟩
theorem vx_L.word {C n d : String} {A : Nat → Prop} {s : State} {args : Array Value} (h : vx_L C n d A s s.heap) : (Cond.laysStatic C n d).before args s = true := by
  obtain ⟨c, k, i, f, a, cell, h1, h2, h3, h4, h5, h6, h7, h8, h9, -⟩ := h
  show (Cond.laysStatic C n d).holds args s none s [] = true
  exact Cond.laysStatic_of h1 h2 h3 h4 h5 h6 h7 h8 h9
/-- .. and what it holds: null or some reference -/
def vx_Zq (C n d : String) (A : Nat → Prop) (U : State) (H : Heap) : Prop := va_Zq C n d A U H ∧ vx_L C n d A U H
theorem vx_Zq.moved {C n d : String} {A : Nat → Prop} {u U : State} {H : Heap} (hvm : u.vm.Alike U.vm) (h : vx_Zq C n d A u H) : vx_Zq C n d A U H := ⟨va_Zq.moved hvm h.1, vx_L.moved hvm h.2⟩
theorem vx_Zq.kept {C n d : String} {A : Nat → Prop} {U : State} {H H1 : Heap} (h : vx_Zq C n d A U H) (hq : ∀ a : Nat, a < H.size → ¬ A a → H1[a]? = H[a]?) : vx_Zq C n d A U H1 := ⟨va_Zq.kept h.1 hq, vx_L.kept h.2 hq⟩
theorem vx_Zq.narrow {C n d : String} {A B : Nat → Prop} {U : State} {H : Heap} (h : vx_Zq C n d A U H) (hAB : ∀ q, B q → A q) : vx_Zq C n d B U H := ⟨va_Zq.narrow h.1 hAB, vx_L.narrow h.2 hAB⟩
theorem vx_Zqof {args : Array Value} {s : State} {C n d : String} {A : Nat → Prop} (hl : (Cond.laysStatic C n d).before args s = true) (hini : (Cond.initialized C).before args s = true) (h : (Cond.isRef (.static C n d)).before args s = true) (hA : ∀ a : Nat, a < s.heap.size → ¬ A a) : vx_Zq C n d A s s.heap := by
  refine ⟨va_Zqof hl hini h hA, ?_⟩
  obtain ⟨c, k, i, f, a, cell, h1, h2, h3, h4, h5, h6, h7, h8, h9⟩ := Cond.laysStatic_spec hl
  exact ⟨c, k, i, f, a, cell, h1, h2, h3, h4, h5, h6, h7, h8, h9, hA a (Array.getElem?_eq_some_iff.mp h5).1⟩
theorem vx_isRef {C n d : String} {v : Value} {A : Nat → Prop} {s : State} {args : Array Value} (h : va_Z C n d v A s s.heap) (hv : v.isRef = true) : (Cond.isRef (.static C n d)).before args s = true := by
  obtain ⟨cf, kf, fi, f, a, cell, h1, h2, h3, h4, h5, h6, h7, -⟩ := h
  have he : (Term.static C n d).eval args s none [] s = some v := by
    simp [Term.eval, State.fieldNamed?, h1, h2, h4, h5, h6, h7]
  simp only [Cond.before, Cond.holds, Cond.value, he]
  cases v <;> simp_all [Value.isRef]
theorem vx_isRefq {C n d : String} {A : Nat → Prop} {s : State} {args : Array Value} (h : va_Zq C n d A s s.heap) : (Cond.isRef (.static C n d)).before args s = true := by
  rcases h with h | ⟨t, h⟩
  · exact vx_isRef h rfl
  · exact vx_isRef h rfl
/-- the same frame, seen from here: as if the method were called anew in this heap -/
theorem vx_rebase {T : State} (X : Stand p l e R s m args below meth c T locs cells slots) {R' : Room} (hf : R'.frames ≤ R.frames) (hl : R'.locals ≤ R.locals) (hc : cells + R'.cells ≤ R.cells) (hs : slots + R'.slots ≤ R.slots) :
    Stand p l e R' ((T.setVm s.vm).setFrames (.invoking m args :: below)) m args below meth c T [] 0 0 := by
  have htop : (T.setVm s.vm).topJava?.isSome := X.here.top
  have hF : ((T.setVm s.vm).setFrames (.invoking m args :: below)).frames = .invoking m args :: below := State.frames_setFrames _ (State.cur_lt_of_top htop)
  obtain ⟨g₀, hg0⟩ := Option.isSome_iff_exists.mp htop
  obtain ⟨r, hr⟩ := State.topJava?_eq_some.mp hg0
  have hl9 : e.platform.stackLimits (T.setVm s.vm).me = e.platform.stackLimits s.me := X.limits
  have hb9 : (T.setVm s.vm).me.stackBytes = s.me.stackBytes := X.bytes
  refine ⟨X.admits, X.cas, X.clock, hF, ?_, X.hears, X.method, X.code, X.here, X.tail, X.warmed, ?_, ?_, ?_⟩
  · have h := X.room
    have hU : ((T.setVm s.vm).setFrames (.invoking m args :: below)).localsInUse = s.localsInUse := by
      rw [State.localsInUse_invoking hF (meth := meth) (c := c) X.method X.code, State.localsInUse_invoking X.frames X.method X.code]
    simp only [State.hasRoom, Bool.and_eq_true, decide_eq_true_eq] at h ⊢
    obtain ⟨⟨⟨⟨h1, h2, h3, h4, h5, h6⟩, h7⟩, h8⟩, h9⟩ := h
    rw [X.frames, List.length_cons] at h2 h3
    have q1 := X.heapSize
    have q2 := X.used
    simp only [hF, hU, List.length_cons, State.stackLimits_setFrames, State.stackBytes_setFrames, hl9, hb9]
    refine ⟨⟨⟨⟨by omega, by omega, by omega, by omega, by omega, h6⟩, ?_⟩, ?_⟩, X.book⟩
    · show T.heap.size + R'.cells ≤ e.platform.maxCells
      omega
    · show T.slotsUsed + R'.slots ≤ e.platform.maxSlots
      omega
  · rw [State.stackLimits_setFrames]; rfl
  · rw [State.stackBytes_setFrames]; rfl
  · refine ⟨?_, Nat.le_refl _, Nat.le_refl _, ?_, ?_, fun a c9 h9 => ⟨c9, h9, rfl, rfl, fun _ _ => rfl⟩⟩
    · obtain ⟨t, ht, -⟩ := State.frames_cons hr
      show T.setVm s.vm = { ((T.setVm s.vm).setFrames (.invoking m args :: below)).setFrames (T.setVm s.vm).frames with heap := T.heap, slotsUsed := T.slotsUsed }
      rw [State.setFrames_setFrames, State.setFrames_self ht]
      rfl
    · show T.slotsUsed = T.slotsUsed + ((T.heap.toList.drop T.heap.size).map (·.slots.size)).sum
      rw [List.drop_eq_nil_of_le (Nat.le_of_eq Array.length_toList)]
      rfl
    · show ((T.heap.toList.drop T.heap.size).map (·.slots.size)).sum ≤ 0
      rw [List.drop_eq_nil_of_le (Nat.le_of_eq Array.length_toList)]
      exact Nat.le_refl _
/-- 'throw new E()': new; dup; invokespecial; athrow -/
theorem vx_throw0 {cc : ByteArray} {pc : Nat} (hexec : p.tables.exec = Jvm.exec) (hb : c.code = cc) (hl : l.stackTraces = false) {own cls : String} {names : List String} {ik ic mc ms : Nat} {A : Nat → Prop}
    (hown : s.vm.findClass own = some m.cls) (hcls : Bundle.fit cls = true) (hnames : ∀ n ∈ names, Bundle.fit n = true)
    (hk : (Cond.classLink own ik cls).before args s = true) (hini : (Cond.initialized cls).before args s = true) (hat : ∀ w ∈ vx_at0 own ic cls names, w.before args s = true)
    (hgood : ∀ w ∈ Cond.classLink own ik cls :: Cond.initialized cls :: vx_at0 own ic cls names, vx_ot w = true)
    (hU : vx_Zq Bundle.tN "UNASSIGNED_STACK" Bundle.steD A s s.heap) (hN : vx_Zq Bundle.tN "SUPPRESSED_SENTINEL" Bundle.listD A s s.heap) (hS : va_S A s.heap H locs) (hsize : ls.size = c.maxLocals)
    (d0 : decode cc pc = .ok (.new ik, 3)) (d3 : decode cc (pc + 3) = .ok (.dup, 1)) (d4 : decode cc (pc + 4) = .ok (.invokespecial ic, 3)) (d7 : decode cc (pc + 7) = .ok (.athrow, 1))
    (hout : ∀ x ∈ c.exceptionTable.toList, covers x (pc + 7) = false)
    (hRframes : names.length + 3 < R.frames) (hRlocals : (rest.map fun v => v.category).sum + (13 * (names.length + 1) + 42) ≤ R.locals) (hRcells : cells + 1 ≤ R.cells) (hRslots : slots + 6 ≤ R.slots) (hlocks : meth.locks = false)
    (hx : ∀ t : State, s.vm.Alike t.vm → H.size ≤ t.heap.size → (∀ q : Nat, q < H.size → t.heap[q]? = H[q]?) → XC cls s t)
    (hf : ∀ z ∈ locs, free z.base) (hc : cells + 1 ≤ mc) (hs : slots + 6 ≤ ms) :
    W p l e R s m args below meth c H locs cells slots (vx_MQ below Qc XC args s mc ms free) (F0 m pc ls rest) := by
  intro T hT X
  have htr : e.platform.stackTraces = false := (show e.platform.stackTraces = l.stackTraces by rw [X.admits.platform]).trans hl
  have Y := vx_rebase X (R' := { frames := R.frames, locals := R.locals, cells := 1, slots := 6 }) (Nat.le_refl _) (Nat.le_refl _) hRcells hRslots
  obtain ⟨s', hA⟩ : ∃ z, z = (T.setVm s.vm).setFrames (.invoking m args :: below) := ⟨_, rfl⟩
  rw [← hA] at Y
  have hvm : s'.vm = s.vm := by rw [hA]; rfl
  have hhp : s'.heap = H := by rw [hA]; exact hT
  have hW0 : s.WarmedH s'.vm := by rw [hvm]; exact State.WarmedH.refl s
  have hat' : ∀ w ∈ vx_at0 own ic cls names, w.before args s' = true := fun w hw => vx_ot_at hW0 hvm.symm (hgood w (List.mem_cons_of_mem _ (List.mem_cons_of_mem _ hw))) (hat w hw)
  have hk' : (Cond.classLink own ik cls).before args s' = true := vx_ot_at hW0 hvm.symm (hgood _ List.mem_cons_self) hk
  have hini' : (Cond.initialized cls).before args s' = true := vx_ot_at hW0 hvm.symm (hgood _ (List.mem_cons_of_mem _ List.mem_cons_self)) hini
  have hU' : vx_Zq Bundle.tN "UNASSIGNED_STACK" Bundle.steD A s' s'.heap := by rw [hhp]; exact vx_Zq.moved hW0.alike (hU.kept hS.2.1)
  have hN' : vx_Zq Bundle.tN "SUPPRESSED_SENTINEL" Bundle.listD A s' s'.heap := by rw [hhp]; exact vx_Zq.moved hW0.alike (hN.kept hS.2.1)
  have h : ∀ w ∈ Bundle.ownAtoms0 own ic cls names, w.before args s' = true := vx_own hat' (vx_isRefq hU'.1) (vx_isRefq hN'.1) hU'.2.word hN'.2.word
  have hown' : s'.vm.findClass own = some m.cls := by rw [hvm]; exact hown
  have hins : (Cond.instantiable cls 6).before args s' = true := h _ (by simp [Bundle.ownAtoms0])
  obtain ⟨vm₁, cX, kX, hfX, hkX, -, -, X₁, st1⟩ := Y.newCold hexec (own := own) (C := cls) (index := ik) (n := 6) hown' hk' hins hini'
    (g := F0 m pc ls rest) rfl (by rw [hb]; exact d0) (Nat.le_refl _) (Nat.le_refl _)
  generalize hT1 : (T.setVm vm₁).pushCell { cls := cX, slots := kX.instanceTypes.map defaultValue, vm := .none } = T1 at X₁ st1
  have hcat : (Value.ref T.heap.size).category = 1 := rfl
  have hcellA : T1.heap[T.heap.size]? = some (freshCell cX kX) := by rw [← hT1]; exact State.heap_pushCell_size _ _
  have d3' : decode c.code (pc + 3) = .ok (.dup, 1) := by rw [hb]; exact d3
  obtain ⟨U, hsteps, hrun, hend, hW, hsame, ce, hce, hO⟩ := X₁.ctorThrow0 hexec htr (own := own) (cls := cls) (names := names) (ic := ic) hown' hcls hnames h (fun x hx => nomatch hx) hfX hkX hcellA (by rw [hhp, hT]; exact Nat.le_refl _)
    (g := { method := m, pc := pc + 4, locals := ls, stack := .ref T.heap.size :: .ref T.heap.size :: rest, locked := none }) rfl hsize rfl rfl (rest := rest) rfl
    (by rw [hb]; exact d4) (by rw [hb]; exact d7) hout hRframes (by simp only [List.map_cons, List.sum_cons, hcat]; omega) hlocks
  obtain ⟨f1, f2⟩ := vx_frame hsame
  rw [hhp] at f1 f2
  have hWs : s.WarmedH U.vm := State.WarmedH.trans hW0 hW
  have hcl : s.vm.findClass cls = some ce.cls := by
    have h9 := hO.cls
    rw [hvm] at h9
    exact h9
  have hall : s.sameButNew ({ U with vm := s.vm } : State) locs mc ms := by
    subst hA
    obtain ⟨e1, e2⟩ := hsame
    rw [State.setFrames_setFrames] at e1
    have h2 : (T.setVm s.vm).sameButNew ({ U with vm := s.vm } : State) [] (0 + 1) (0 + 6) := ⟨e1, e2⟩
    have h3 := X.same.trans h2
    rw [List.append_nil] at h3
    exact h3.mono hc hs
  refine ⟨U, ?_, .threw T.heap.size, hrun, hend, Or.inr ⟨T.heap.size, rfl, cls, ce, locs, hx U hWs.alike f1 (fun q hq => f2 q hq (fun z hz => nomatch hz)), hce, hO.vm, hcl, hWs, hall, hf⟩⟩
  refine st1 _ ?_
  show Steps p.tables e below (T1.setTop { method := m, pc := pc + 3, locals := ls, stack := .ref T.heap.size :: rest, locked := none }) _
  jvm_step X₁.here [X₁.here.top, hexec, d3', Value.category]
  exact hsteps
/-- 'throw new E("text")': new; dup; ldc; invokespecial; athrow -/
theorem vx_throwS {cc : ByteArray} {pc : Nat} (hexec : p.tables.exec = Jvm.exec) (hb : c.code = cc) (hl : l.stackTraces = false) {own cls text : String} {names : List String} {ik is ic mc ms sa : Nat} {A : Nat → Prop}
    (hown : s.vm.findClass own = some m.cls) (hcls : Bundle.fit cls = true) (hnames : ∀ n ∈ names, Bundle.fit n = true)
    (hk : (Cond.classLink own ik cls).before args s = true) (hini : (Cond.initialized cls).before args s = true) (hstr : vk_R own is text sa s) (hat : ∀ w ∈ vx_atS own ic cls names, w.before args s = true)
    (hgood : ∀ w ∈ Cond.classLink own ik cls :: Cond.initialized cls :: vx_atS own ic cls names, vx_ot w = true)
    (hU : vx_Zq Bundle.tN "UNASSIGNED_STACK" Bundle.steD A s s.heap) (hN : vx_Zq Bundle.tN "SUPPRESSED_SENTINEL" Bundle.listD A s s.heap) (hS : va_S A s.heap H locs) (hsize : ls.size = c.maxLocals)
    (d0 : decode cc pc = .ok (.new ik, 3)) (d3 : decode cc (pc + 3) = .ok (.dup, 1)) (d4 : decode cc (pc + 4) = .ok (.ldc is, 2)) (d6 : decode cc (pc + 6) = .ok (.invokespecial ic, 3)) (d9 : decode cc (pc + 9) = .ok (.athrow, 1))
    (hout : ∀ x ∈ c.exceptionTable.toList, covers x (pc + 9) = false)
    (hRframes : names.length + 3 < R.frames) (hRlocals : (rest.map fun v => v.category).sum + (13 * (names.length + 1) + 43) ≤ R.locals) (hRcells : cells + 1 ≤ R.cells) (hRslots : slots + 6 ≤ R.slots) (hlocks : meth.locks = false)
    (hx : ∀ t : State, s.vm.Alike t.vm → H.size ≤ t.heap.size → (∀ q : Nat, q < H.size → t.heap[q]? = H[q]?) → XC cls s t)
    (hf : ∀ z ∈ locs, free z.base) (hc : cells + 1 ≤ mc) (hs : slots + 6 ≤ ms) :
    W p l e R s m args below meth c H locs cells slots (vx_MQ below Qc XC args s mc ms free) (F0 m pc ls rest) := by
  intro T hT X
  have htr : e.platform.stackTraces = false := (show e.platform.stackTraces = l.stackTraces by rw [X.admits.platform]).trans hl
  have Y := vx_rebase X (R' := { frames := R.frames, locals := R.locals, cells := 1, slots := 6 }) (Nat.le_refl _) (Nat.le_refl _) hRcells hRslots
  obtain ⟨s', hA⟩ : ∃ z, z = (T.setVm s.vm).setFrames (.invoking m args :: below) := ⟨_, rfl⟩
  rw [← hA] at Y
  have hvm : s'.vm = s.vm := by rw [hA]; rfl
  have hhp : s'.heap = H := by rw [hA]; exact hT
  have hW0 : s.WarmedH s'.vm := by rw [hvm]; exact State.WarmedH.refl s
  have hat' : ∀ w ∈ vx_atS own ic cls names, w.before args s' = true := fun w hw => vx_ot_at hW0 hvm.symm (hgood w (List.mem_cons_of_mem _ (List.mem_cons_of_mem _ hw))) (hat w hw)
  have hk' : (Cond.classLink own ik cls).before args s' = true := vx_ot_at hW0 hvm.symm (hgood _ List.mem_cons_self) hk
  have hini' : (Cond.initialized cls).before args s' = true := vx_ot_at hW0 hvm.symm (hgood _ (List.mem_cons_of_mem _ List.mem_cons_self)) hini
  have hU' : vx_Zq Bundle.tN "UNASSIGNED_STACK" Bundle.steD A s' s'.heap := by rw [hhp]; exact vx_Zq.moved hW0.alike (hU.kept hS.2.1)
  have hN' : vx_Zq Bundle.tN "SUPPRESSED_SENTINEL" Bundle.listD A s' s'.heap := by rw [hhp]; exact vx_Zq.moved hW0.alike (hN.kept hS.2.1)
  have h : ∀ w ∈ Bundle.ownAtoms own ic cls names, w.before args s' = true := vx_own hat' (vx_isRefq hU'.1) (vx_isRefq hN'.1) hU'.2.word hN'.2.word
  have hown' : s'.vm.findClass own = some m.cls := by rw [hvm]; exact hown
  have hins : (Cond.instantiable cls 6).before args s' = true := h _ (by simp [Bundle.ownAtoms])
  obtain ⟨vm₁, cX, kX, hfX, hkX, -, -, X₁, st1⟩ := Y.newCold hexec (own := own) (C := cls) (index := ik) (n := 6) hown' hk' hins hini'
    (g := F0 m pc ls rest) rfl (by rw [hb]; exact d0) (Nat.le_refl _) (Nat.le_refl _)
  generalize hT1 : (T.setVm vm₁).pushCell { cls := cX, slots := kX.instanceTypes.map defaultValue, vm := .none } = T1 at X₁ st1
  have hcat : (Value.ref T.heap.size).category = 1 := rfl
  have hcellA : T1.heap[T.heap.size]? = some (freshCell cX kX) := by rw [← hT1]; exact State.heap_pushCell_size _ _
  have d3' : decode c.code (pc + 3) = .ok (.dup, 1) := by rw [hb]; exact d3
  have d4' : decode c.code (pc + 4) = .ok (.ldc is, 2) := by rw [hb]; exact d4
  have hstr' : vk_R own is text sa s' := vk_R.warm hW0 hstr
  obtain ⟨U, hsteps, hrun, hend, hW, hsame, ce, hce, hO⟩ := X₁.ctorThrowS hexec htr (own := own) (cls := cls) (names := names) (ic := ic) hown' hcls hnames h (fun x hx => nomatch hx) hfX hkX hcellA (by rw [hhp, hT]; exact Nat.le_refl _) (msg := .ref sa) rfl
    (g := { method := m, pc := pc + 6, locals := ls, stack := .ref sa :: .ref T.heap.size :: .ref T.heap.size :: rest, locked := none }) rfl hsize rfl rfl (rest := rest) rfl
    (by rw [hb]; exact d6) (by rw [hb]; exact d9) hout hRframes (by simp only [List.map_cons, List.sum_cons, hcat]; omega) hlocks
  obtain ⟨f1, f2⟩ := vx_frame hsame
  rw [hhp] at f1 f2
  have hWs : s.WarmedH U.vm := State.WarmedH.trans hW0 hW
  have hcl : s.vm.findClass cls = some ce.cls := by
    have h9 := hO.cls
    rw [hvm] at h9
    exact h9
  have hall : s.sameButNew ({ U with vm := s.vm } : State) locs mc ms := by
    subst hA
    obtain ⟨e1, e2⟩ := hsame
    rw [State.setFrames_setFrames] at e1
    have h2 : (T.setVm s.vm).sameButNew ({ U with vm := s.vm } : State) [] (0 + 1) (0 + 6) := ⟨e1, e2⟩
    have h3 := X.same.trans h2
    rw [List.append_nil] at h3
    exact h3.mono hc hs
  refine ⟨U, ?_, .threw T.heap.size, hrun, hend, Or.inr ⟨T.heap.size, rfl, cls, ce, locs, hx U hWs.alike f1 (fun q hq => f2 q hq (fun z hz => nomatch hz)), hce, hO.vm, hcl, hWs, hall, hf⟩⟩
  refine st1 _ ?_
  show Steps p.tables e below (T1.setTop { method := m, pc := pc + 3, locals := ls, stack := .ref T.heap.size :: rest, locked := none }) _
  jvm_step X₁.here [X₁.here.top, hexec, d3', Value.category]
  exact X₁.ldcString hexec (own := own) (text := text) (index := is) (a := sa) hown' hstr'.1 hstr'.2
    (g := { method := m, pc := pc + 4, locals := ls, stack := .ref T.heap.size :: .ref T.heap.size :: rest, locked := none }) rfl d4' _ hsteps
/-- 'throw new E("text")', the text by a wide index -/
theorem vx_throwSW {cc : ByteArray} {pc : Nat} (hexec : p.tables.exec = Jvm.exec) (hb : c.code = cc) (hl : l.stackTraces = false) {own cls text : String} {names : List String} {ik is ic mc ms sa : Nat} {A : Nat → Prop}
    (hown : s.vm.findClass own = some m.cls) (hcls : Bundle.fit cls = true) (hnames : ∀ n ∈ names, Bundle.fit n = true)
    (hk : (Cond.classLink own ik cls).before args s = true) (hini : (Cond.initialized cls).before args s = true) (hstr : vk_R own is text sa s) (hat : ∀ w ∈ vx_atS own ic cls names, w.before args s = true)
    (hgood : ∀ w ∈ Cond.classLink own ik cls :: Cond.initialized cls :: vx_atS own ic cls names, vx_ot w = true)
    (hU : vx_Zq Bundle.tN "UNASSIGNED_STACK" Bundle.steD A s s.heap) (hN : vx_Zq Bundle.tN "SUPPRESSED_SENTINEL" Bundle.listD A s s.heap) (hS : va_S A s.heap H locs) (hsize : ls.size = c.maxLocals)
    (d0 : decode cc pc = .ok (.new ik, 3)) (d3 : decode cc (pc + 3) = .ok (.dup, 1)) (d4 : decode cc (pc + 4) = .ok (.ldc_w is, 3)) (d7 : decode cc (pc + 7) = .ok (.invokespecial ic, 3)) (d10 : decode cc (pc + 10) = .ok (.athrow, 1))
    (hout : ∀ x ∈ c.exceptionTable.toList, covers x (pc + 10) = false)
    (hRframes : names.length + 3 < R.frames) (hRlocals : (rest.map fun v => v.category).sum + (13 * (names.length + 1) + 43) ≤ R.locals) (hRcells : cells + 1 ≤ R.cells) (hRslots : slots + 6 ≤ R.slots) (hlocks : meth.locks = false)
    (hx : ∀ t : State, s.vm.Alike t.vm → H.size ≤ t.heap.size → (∀ q : Nat, q < H.size → t.heap[q]? = H[q]?) → XC cls s t)
    (hf : ∀ z ∈ locs, free z.base) (hc : cells + 1 ≤ mc) (hs : slots + 6 ≤ ms) :
    W p l e R s m args below meth c H locs cells slots (vx_MQ below Qc XC args s mc ms free) (F0 m pc ls rest) := by
  intro T hT X
  have htr : e.platform.stackTraces = false := (show e.platform.stackTraces = l.stackTraces by rw [X.admits.platform]).trans hl
  have Y := vx_rebase X (R' := { frames := R.frames, locals := R.locals, cells := 1, slots := 6 }) (Nat.le_refl _) (Nat.le_refl _) hRcells hRslots
  obtain ⟨s', hA⟩ : ∃ z, z = (T.setVm s.vm).setFrames (.invoking m args :: below) := ⟨_, rfl⟩
  rw [← hA] at Y
  have hvm : s'.vm = s.vm := by rw [hA]; rfl
  have hhp : s'.heap = H := by rw [hA]; exact hT
  have hW0 : s.WarmedH s'.vm := by rw [hvm]; exact State.WarmedH.refl s
  have hat' : ∀ w ∈ vx_atS own ic cls names, w.before args s' = true := fun w hw => vx_ot_at hW0 hvm.symm (hgood w (List.mem_cons_of_mem _ (List.mem_cons_of_mem _ hw))) (hat w hw)
  have hk' : (Cond.classLink own ik cls).before args s' = true := vx_ot_at hW0 hvm.symm (hgood _ List.mem_cons_self) hk
  have hini' : (Cond.initialized cls).before args s' = true := vx_ot_at hW0 hvm.symm (hgood _ (List.mem_cons_of_mem _ List.mem_cons_self)) hini
  have hU' : vx_Zq Bundle.tN "UNASSIGNED_STACK" Bundle.steD A s' s'.heap := by rw [hhp]; exact vx_Zq.moved hW0.alike (hU.kept hS.2.1)
  have hN' : vx_Zq Bundle.tN "SUPPRESSED_SENTINEL" Bundle.listD A s' s'.heap := by rw [hhp]; exact vx_Zq.moved hW0.alike (hN.kept hS.2.1)
  have h : ∀ w ∈ Bundle.ownAtoms own ic cls names, w.before args s' = true := vx_own hat' (vx_isRefq hU'.1) (vx_isRefq hN'.1) hU'.2.word hN'.2.word
  have hown' : s'.vm.findClass own = some m.cls := by rw [hvm]; exact hown
  have hins : (Cond.instantiable cls 6).before args s' = true := h _ (by simp [Bundle.ownAtoms])
  obtain ⟨vm₁, cX, kX, hfX, hkX, -, -, X₁, st1⟩ := Y.newCold hexec (own := own) (C := cls) (index := ik) (n := 6) hown' hk' hins hini'
    (g := F0 m pc ls rest) rfl (by rw [hb]; exact d0) (Nat.le_refl _) (Nat.le_refl _)
  generalize hT1 : (T.setVm vm₁).pushCell { cls := cX, slots := kX.instanceTypes.map defaultValue, vm := .none } = T1 at X₁ st1
  have hcat : (Value.ref T.heap.size).category = 1 := rfl
  have hcellA : T1.heap[T.heap.size]? = some (freshCell cX kX) := by rw [← hT1]; exact State.heap_pushCell_size _ _
  have d3' : decode c.code (pc + 3) = .ok (.dup, 1) := by rw [hb]; exact d3
  have d4' : decode c.code (pc + 4) = .ok (.ldc_w is, 3) := by rw [hb]; exact d4
  have hstr' : vk_R own is text sa s' := vk_R.warm hW0 hstr
  obtain ⟨U, hsteps, hrun, hend, hW, hsame, ce, hce, hO⟩ := X₁.ctorThrowS hexec htr (own := own) (cls := cls) (names := names) (ic := ic) hown' hcls hnames h (fun x hx => nomatch hx) hfX hkX hcellA (by rw [hhp, hT]; exact Nat.le_refl _) (msg := .ref sa) rfl
    (g := { method := m, pc := pc + 7, locals := ls, stack := .ref sa :: .ref T.heap.size :: .ref T.heap.size :: rest, locked := none }) rfl hsize rfl rfl (rest := rest) rfl
    (by rw [hb]; exact d7) (by rw [hb]; exact d10) hout hRframes (by simp only [List.map_cons, List.sum_cons, hcat]; omega) hlocks
  obtain ⟨f1, f2⟩ := vx_frame hsame
  rw [hhp] at f1 f2
  have hWs : s.WarmedH U.vm := State.WarmedH.trans hW0 hW
  have hcl : s.vm.findClass cls = some ce.cls := by
    have h9 := hO.cls
    rw [hvm] at h9
    exact h9
  have hall : s.sameButNew ({ U with vm := s.vm } : State) locs mc ms := by
    subst hA
    obtain ⟨e1, e2⟩ := hsame
    rw [State.setFrames_setFrames] at e1
    have h2 : (T.setVm s.vm).sameButNew ({ U with vm := s.vm } : State) [] (0 + 1) (0 + 6) := ⟨e1, e2⟩
    have h3 := X.same.trans h2
    rw [List.append_nil] at h3
    exact h3.mono hc hs
  refine ⟨U, ?_, .threw T.heap.size, hrun, hend, Or.inr ⟨T.heap.size, rfl, cls, ce, locs, hx U hWs.alike f1 (fun q hq => f2 q hq (fun z hz => nomatch hz)), hce, hO.vm, hcl, hWs, hall, hf⟩⟩
  refine st1 _ ?_
  show Steps p.tables e below (T1.setTop { method := m, pc := pc + 3, locals := ls, stack := .ref T.heap.size :: rest, locked := none }) _
  jvm_step X₁.here [X₁.here.top, hexec, d3', Value.category]
  exact X₁.ldcStringW hexec (own := own) (text := text) (index := is) (a := sa) hown' hstr'.1 hstr'.2
    (g := { method := m, pc := pc + 4, locals := ls, stack := .ref T.heap.size :: .ref T.heap.size :: rest, locked := none }) rfl d4' _ hsteps
end Ends
section Bodies
variable {l : Launch}
theorem vx_ofW {y : MethodName} {ws ws' : List Cond} {rm : Room} {Pc : Array Value → State → Prop} {Qc : Array Value → State → Outcome → State → Prop} {XC : String → State → State → Prop} {mc ms : Nat} {free : Addr → Prop} {cc : ByteArray} {maxL : Nat} {ret : Option FieldType}
    (hy : plainName y.cls = true) (hw : ws = Cond.code y cc maxL ret :: ws')
    (body : ∀ p e s m args below meth c s₁, BodyLoose p l y (headSpec ws rm) cc maxL ret e s m args below meth c s₁ → c.maxLocals = maxL → (∀ x ∈ c.exceptionTable.toList, False) → Pc args s →
      W p l e (headSpec ws rm).room s m args below meth c s.heap [] 0 0 (vx_MQ below Qc XC args s mc ms free) (entryFrame m args maxL)) : vx_Met l y ws rm Pc Qc XC mc ms free := by
  refine MetFree.of_bodyS (code := cc) (maxLocals := maxL) (ret := ret) hy ?_ ?_
  · intro args s m h hn
    obtain ⟨meth, c, h1, h2, h3, h4, h5, h6, -, -⟩ := Cond.code_spec hn (atoms_spec (ws := ws) h _ (by rw [hw]; exact List.mem_cons_self))
    exact ⟨meth, c, h1, h2, h3, h4, h5, h6⟩
  · intro p e s m args below meth c s₁ B hml hP _
    have hh0 : s₁.heap = s.heap := by rw [B.state]; rfl
    have ht : ∀ x ∈ c.exceptionTable.toList, False := by
      obtain ⟨meth9, c9, h1, h2, -, -, -, -, h7, -⟩ := Cond.code_spec B.named (atoms_spec (ws := ws) B.pre _ (by rw [hw]; exact List.mem_cons_self))
      cases Option.some.inj (h1.symm.trans B.method)
      cases Option.some.inj (h2.symm.trans (Stand.of_body B).code)
      intro x hx
      rw [Array.isEmpty_iff.mp h7] at hx
      cases hx
    obtain ⟨t, a1, o, b1, b2, b3⟩ := body p e s m args below meth c s₁ B hml ht hP s₁ hh0 (Stand.of_body B)
    exact ⟨t, o, a1, b1, b2, b3⟩
/-- the table of a body with handlers -/
theorem vx_table {p : Program} {x y : MethodName} {S : Spec} {cc bytes : ByteArray} {maxL maxL' : Nat} {ret ret' : Option FieldType} {e : Env} {s s₁ : State} {m : MethodId} {args : Array Value} {below : List Frame} {meth : Method} {c : Code} {hh : List (Nat × Nat × Nat × Nat)}
    (B : BodyLoose p l y S cc maxL ret e s m args below meth c s₁) (h : (Cond.codeWith y bytes maxL' ret' hh).before args s = true) : c.exceptionTable.toList = tableOf hh := by
  obtain ⟨m9, meth9, c9, hn9, h1, h2, -, -, h6, -⟩ := Cond.codeWith_spec h
  cases Option.some.inj (hn9.symm.trans B.named)
  cases Option.some.inj (h1.symm.trans B.method)
  cases Option.some.inj (h2.symm.trans (Stand.of_body B).code)
  rw [← h6, table_eq]
end Bodies
end VXA
/-! ===== END ===== -/
/-! ===== BEGIN a static call of a method with an exception table ===== -/
section VXS
variable {p : Program} {l : Launch} {e : Env} {R : Room} {s : State} {m : MethodId} {args : Array Value} {below : List Frame} {meth : Method} {c : Code} {T : State} {H : Heap} {locs : List Loc} {cells slots : Nat}
abbrev vx_CSW (R : Room) (s : State) (args : Array Value) (own : String) (index : Nat) (y : MethodName) (bytes : ByteArray) (maxL : Nat) (ret : Option FieldType) (hh : List (Nat × Nat × Nat × Nat)) (ws : List Cond) (rm : Room) (mc ms n : Nat) : Prop :=
  (rm.cells = mc ∧ rm.slots = ms ∧ rm.frames + 1 ≤ R.frames ∧ 8 + (maxL + 11) + rm.locals ≤ R.locals ∧ (∀ w ∈ ws, ∀ (a' : Array Value) (U : State), s.WarmedH U.vm → w.before a' U = true) ∧ Cond.codeWith y bytes maxL ret hh ∈ ws) ∧
  (Cond.codeWith y bytes maxL ret hh).before args s = true ∧ (Cond.initialized y.cls).before args s = true ∧ (y.cls ≠ "java/lang/invoke/MethodHandle" ∧ y.cls ≠ "java/lang/invoke/VarHandle") ∧
  (∀ sig, parseMethodDescriptor y.desc = some sig → n = sig.parameters.length) ∧ (Cond.methodLink own index y).before args s = true ∧ (Cond.static y).before args s = true
theorem vx_cwSW {own : String} {index maxL mc ms : Nat} {y : MethodName} {bytes : ByteArray} {ret : Option FieldType} {hh : List (Nat × Nat × Nat × Nat)} {Ts ws ws' : List Cond} {rm : Room} (n : Nat) (ht : ∀ w ∈ Ts, w.before args s = true) (hT : GoodIn Ts (va_wsS own index y ws)) (hw : ws = Cond.codeWith y bytes maxL ret hh :: ws') (hrc : rm.cells = mc) (hrs : rm.slots = ms)
    (hd : y.cls ≠ "java/lang/invoke/MethodHandle" ∧ y.cls ≠ "java/lang/invoke/VarHandle" ∧ (parseMethodDescriptor y.desc).map (fun d => d.parameters.length) = some n) (hR : rm.frames + 1 ≤ R.frames ∧ 8 + (maxL + 11) + rm.locals ≤ R.locals) :
    vx_CSW R s args own index y bytes maxL ret hh ws rm mc ms n := by
  have ok : ∀ w ∈ va_wsS own index y ws, w.before args s = true := fun w h => ht w (hT w h).1
  have hG : GoodIn Ts ws := fun w h => hT w (by unfold va_wsS; exact List.mem_append_right _ h)
  have hc : Cond.codeWith y bytes maxL ret hh ∈ ws := by rw [hw]; exact List.mem_cons_self
  refine ⟨⟨hrc, hrs, hR.1, hR.2, pay_in ht hG, hc⟩, ht _ (hG _ hc).1, ok _ (by simp [va_wsS]), ⟨hd.1, hd.2.1⟩, fun sig h => ?_, ok _ (by simp [va_wsS]), ok _ (by simp [va_wsS])⟩
  have h2 := hd.2.2
  rw [h] at h2
  exact (Option.some.inj h2).symm
theorem vx_callSW (X : Stand p l e R s m args below meth c T locs cells slots) (hexec : p.tables.exec = Jvm.exec) {own : String} {index : Nat} {y : MethodName} {bytes : ByteArray} {maxL : Nat} {ret : Option FieldType} {hh : List (Nat × Nat × Nat × Nat)}
    (hown : s.vm.findClass own = some m.cls) (hlink : (Cond.methodLink own index y).before args s = true) (hstat : (Cond.static y).before args s = true) (hinit : (Cond.initialized y.cls).before args s = true)
    (hcode : (Cond.codeWith y bytes maxL ret hh).before args s = true) (hy : y.cls ≠ "java/lang/invoke/MethodHandle" ∧ y.cls ≠ "java/lang/invoke/VarHandle")
    {W9 : Nat} {Pre : Pt → Array Value → Prop} {Post : Pt → Array Value → Option Value → Pt → Prop} (hK : Back l R p e below s args y 3 W9 Pre Post)
    {g : JFrame} (hg : g.method = m) (hsize : g.locals.size = c.maxLocals) {argsL rest : List Value} (hlen : ∀ sig, parseMethodDescriptor y.desc = some sig → argsL.length = sig.parameters.length)
    (hstack : g.stack = argsL.reverse ++ rest) (hW : 2 * g.monitorRoom + (rest.map fun v => v.category).sum ≤ W9) (hdg : decode c.code g.pc = .ok (.invokestatic index, 3))
    (hpre : ∀ vm₁, s.WarmedH vm₁ → Pre ⟨T.setVm vm₁, locs, cells, slots⟩ argsL.toArray) :
    ∃ (v : Option Value) (vm₁ : Vm) (B : Pt), s.WarmedH vm₁ ∧ Stand p l e R s m args below meth c B.U B.locs B.cells B.slots ∧ Post ⟨T.setVm vm₁, locs, cells, slots⟩ argsL.toArray v B ∧
      ∀ target, Steps p.tables e below (B.U.setTop { g with pc := g.pc + 3, stack := v.toList ++ rest }) target → Steps p.tables e below (T.setTop g) target := by
  obtain ⟨mk, methM, cM, hnamed, hmethM, -, -, -, -, -, -, hsigM⟩ := Cond.codeWith_spec hcode
  have hstatic : methM.isStatic = true := Cond.static_spec hnamed hmethM hstat
  obtain ⟨kP, hkP, -⟩ := className_of_methodNamed hnamed
  have hinitP : kP.init = .initialized := Cond.initialized_spec (findClass_of_methodNamed hnamed) hkP hinit
  obtain ⟨vm₁, X₁, hstep₁⟩ := X.invokestatic hexec hown hlink hnamed hmethM hstatic hkP hinitP hy (g := g) hg (argsL := argsL) (rest := rest) (hlen _ hsigM) hstack hdg
  obtain ⟨v, B, X', hpost, hsteps⟩ := hK m meth c ⟨T.setVm vm₁, locs, cells, slots⟩ { g with stack := rest } (.invokestatic index) mk argsL.toArray X₁ hg hsize hdg hW (X₁.named hnamed) (hpre vm₁ X₁.warmed)
  exact ⟨v, vm₁, B, X₁.warmed, X', hpost, fun target h => hstep₁ _ fun acts => by rw [doInvoke_state]; exact hsteps.trans h⟩
theorem vx_runSW {y : MethodName} {bytes cc : ByteArray} {maxL nL mc ms n index : Nat} {ret : Option FieldType} {hh : List (Nat × Nat × Nat × Nat)} {ws : List Cond} {rm : Room} {Pc : Array Value → State → Prop} {Qc : Array Value → State → Outcome → State → Prop} {free : Addr → Prop} {Ts : List Cond} {own : String} {As rest : List Value} {g : JFrame}
    (S : CallFix p m c cc nL s args Ts own) (hM : Met l y ws rm Pc Qc mc ms free) (cw : vx_CSW R s args own index y bytes maxL ret hh ws rm mc ms n) (hp : PreS s H Pc As)
    (hg : g.method = m) (hn : As.length = n) (hsize : g.locals.size = nL) (hstack : g.stack = As.reverse ++ rest) (hW : 2 * g.monitorRoom + (rest.map fun v => v.category).sum ≤ 8) (hdg : decode cc g.pc = .ok (.invokestatic index, 3)) (hf : cells + mc ≤ R.cells ∧ slots + ms ≤ R.slots) :
    va_Run p l e R s m args below meth c H locs cells slots mc ms g rest (Qc As.toArray) (free) := by
  obtain ⟨⟨hrc, hrs, hfr, hlo, hws, hcw⟩, hcode, hini, hy, hlen, hl, hstt⟩ := cw
  have hK : Back l R p e below s args y 3 8 (PreOf R mc ms Pc) (PostOf Qc mc ms free) := va_backW (hh := hh) (bytes := bytes) (maxL := maxL) (ret := ret) hM hp.1 hrc hrs hfr hlo hws hcw (fun a' U hW => word_at hW (Or.inl (by first | rfl | simp [Cond.onTables, Cond.keeps, Cond.steady])) hini)
  obtain ⟨hx, hb, hml, ho, -⟩ := S
  intro T hT X
  obtain ⟨v, vm₁, ⟨U', l2, c2, s2⟩, hW₁, X', ⟨g', mk, t, L, e1, e2, hq, h1, hL, h2, h3⟩, st⟩ := vx_callSW X hx (hh := hh) (bytes := bytes) (maxL := maxL) (ret := ret) ho hl hstt hini hcode hy hK hg (hsize.trans hml.symm) (argsL := As) (rest := rest) (fun sig h => hn.trans (hlen sig h)) hstack hW (by rw [hb]; exact hdg)
    (fun vm₁ hW₁ => ⟨hf.1, hf.2, hp.2 (T.setVm vm₁) hT hW₁⟩)
  dsimp only [Pt.U, Pt.locs, Pt.cells, Pt.slots] at X' e1 e2 h1 h2 h3 st
  subst h1; subst h2; subst h3
  exact ⟨v, (T.setVm vm₁).calling g' mk As.toArray, t, U', L, hT, X', hL, e1, e2, hq, st⟩
/-- not caught here, past rows that name other classes: it goes on to the caller -/
theorem vx_outP {p : Program} {l : Launch} {e : Env} {R : Room} {s : State} {m : MethodId} {args : Array Value} {below : List Frame} {meth : Method} {c : Code} {H : Heap} {locs : List Loc} {cells slots : Nat} {free : Addr → Prop} {ls : Array Slot} {rest : List Value} {Qc : Array Value → State → Outcome → State → Prop} {XC : String → State → State → Prop}
    {pc : Nat} {own E : String} {ce : Cell} {q : Addr} {mc ms : Nat} (hown : s.vm.findClass own = some m.cls) (hlocks : meth.locks = false)
    (hpass : ∀ z ∈ c.exceptionTable.toList, covers z pc = false ∨ (z.catchType ≠ 0 ∧ ∃ nm : String, (Cond.classLink own z.catchType nm).before args s = true ∧ va_Nc E nm s)) (hcell : H[q]? = some ce) (hv : ce.vm = .none) (hcl : s.vm.findClass E = some ce.cls)
    (hx : ∀ t : State, t.heap = H → s.vm.Alike t.vm → XC E s t) (hf : ∀ z ∈ locs, free z.base) (hc : cells ≤ mc) (hs : slots ≤ ms) :
    vx_W p l e R s m args below meth c H locs cells slots (vx_MQ below Qc XC args s mc ms free) (F0 m pc ls rest) q := by
  intro T hT X
  have hpl : e.platform.magicAccessors = ({} : Platform).magicAccessors := by rw [X.admits.platform]
  obtain ⟨vm', hW', X', st⟩ := X.outThrough hlocks q (g := F0 m pc ls rest) rfl rfl rfl (cell := ce) (by rw [hT]; exact hcell) (by rw [hv]; rfl)
    (by obtain ⟨k9, h9, -⟩ := Vm.findClass_spec hcl; exact ⟨k9, h9⟩) (fun z hz => by
      rcases hpass z hz with h | ⟨hz0, nm, hl1, hn1⟩
      · exact Or.inl h
      · obtain ⟨c6, hc6, hcl6⟩ := Cond.classLink_spec hown hl1 e.platform hpl
        obtain ⟨a8, b8, h1, h2, h3⟩ := hn1
        cases Option.some.inj (h1.symm.trans hcl)
        cases Option.some.inj (h2.symm.trans hc6)
        exact Or.inr ⟨hz0, _, hcl6, h3⟩)
  obtain ⟨g₀, hfr⟩ := X'.frames_eq
  have hcell9 : ((T.setVm vm').setFrames (.throwing q :: below)).heap[q]? = some ce := by
    show T.heap[q]? = some ce
    rw [hT]; exact hcell
  have hend : Ended ((T.setVm vm').setFrames (.throwing q :: below)) below (.threw q) := State.frames_setFrames _ (State.cur_lt_of_frames hfr)
  refine ⟨(T.setVm vm').setFrames (.throwing q :: below), ?_, .threw q, X'.here.running, hend, Or.inr ⟨q, rfl, E, ce, locs, hx _ hT (X'.ends _).1.alike, hcell9, hv, hcl, (X'.ends _).1, (X'.ends _).2.mono hc hs, hf⟩⟩
  rw [X.pushThrowing_eq]
  exact st
/-- a thing of a world lies in the heap -/
theorem vx_lt {D : va_G} {cl : List vw_C} {ws : va_W} {H1 : Heap} (h : va_P D cl ws H1) {k : Nat} {q : Nat × va_E} (hk : ws[k]? = some q) : q.1 < H1.size := (h k q hk).lt
end VXS
/-! ===== END ===== -/
/-! ===== BEGIN methods with a table of their own: called by a name, returning or throwing ===== -/
section VXH
/-! vx_backW, vx_callVX, vx_callSX, vx_callVW, vx_runVW, vx_runVX, vx_runSX, vx_ofWH follow the same proofs as their sisters above (Free/Laws.lean, Shelf42/LK1.lean); vx_outP calls Shelf42/NT130.lean (outThrough). -/
section
variable {l : Launch} {R : Room} {p : Program} {e : Env} {below : List Frame} {s : State} {sargs : Array Value} {y : MethodName} {len W9 : Nat}
theorem vx_backW {ws : List Cond} {rm : Room} {Pc : Array Value → State → Prop} {Qc : Array Value → State → Outcome → State → Prop} {XC : String → State → State → Prop} {mc ms : Nat} {free : Addr → Prop} {bytes : ByteArray} {maxL : Nat} {ret : Option FieldType} {hh : List (Nat × Nat × Nat × Nat)}
    (hM : vx_Met l y ws rm Pc Qc XC mc ms free) (hblind : FrameBlind Pc) (hrc : rm.cells = mc) (hrs : rm.slots = ms)
    (hframes : rm.frames + 1 ≤ R.frames) (hlocals : W9 + (maxL + 11) + rm.locals ≤ R.locals)
    (hws : ∀ w ∈ ws, ∀ a' U, s.WarmedH U.vm → w.before a' U = true) (hcode : Cond.codeWith y bytes maxL ret hh ∈ ws) (hinit : ∀ a' U, s.WarmedH U.vm → (Cond.initialized y.cls).before a' U = true) :
    vx_Back l R p e below s sargs y len W9 (PreOf R mc ms Pc) (PostOf Qc mc ms free) (vx_Post XC mc ms free) := by
  intro m meth c A g ig mk a X hg hsize hdg hW hn hp
  have h1 : (headSpec ws rm).pre.before a A.U = true := atoms_intro fun w hw => hws w hw _ _ X.warmed
  have h2 : (Cond.codeWith y bytes maxL ret hh).before a A.U = true := hws _ hcode _ _ X.warmed
  have h3 : (Cond.initialized y.cls).before a A.U = true := hinit _ _ X.warmed
  have h4 : A.cells + (headSpec ws rm).room.cells ≤ R.cells := by rw [show (headSpec ws rm).room.cells = mc from hrc]; exact hp.1
  have h5 : A.slots + (headSpec ws rm).room.slots ≤ R.slots := by rw [show (headSpec ws rm).room.slots = ms from hrs]; exact hp.2.1
  have hPc : Pc a (A.U.calling g mk a) := hblind _ _ _ _ hp.2.2
  obtain ⟨U, Ls, c0, s0⟩ := A
  dsimp only [Pt.U, Pt.locs, Pt.cells, Pt.slots] at h1 h2 h3 h4 h5 X hn hPc ⊢
  obtain ⟨m9, methY, cY, hn9, hmY, hcY, -, hlY, -⟩ := Cond.codeWith_spec h2
  cases Option.some.inj (hn9.symm.trans hn)
  obtain ⟨kY, hkY, -⟩ := className_of_methodNamed hn
  have hinitY : kY.init = .initialized := Cond.initialized_spec (findClass_of_methodNamed hn) hkY h3
  have h : At U g.method c below := by rw [hg]; exact X.here
  have hlocals9 : W9 + (maxL + 11) + (headSpec ws rm).room.locals ≤ R.locals := hlocals
  have happ : (headSpec ws rm).appliesLoose y e.platform (U.calling g mk a) = true :=
    Spec.appliesLoose_calling (g := g) h hdg hn hkY hinitY
      (X.room_calling (g := g) (R' := (headSpec ws rm).room) hsize hmY hcY hframes (by rw [hlY]; omega) h4 h5) h1
  obtain ⟨mid, hmid⟩ := h.above
  have hfr : (U.setTop g).frames = (.java g :: mid) ++ below := by rw [State.frames_setTop' g h.top, hmid]; rfl
  obtain ⟨o, s₂, hsteps, -, hend, hq⟩ := Steps.callFree hM p X.admits X.cas X.clock (acts := []) hfr happ hPc trivial
  have hq' : vx_Q Qc XC mc ms free a (U.calling g mk a) o s₂ := hq
  rw [State.frames_setTop' g h.top] at hend
  obtain ⟨g₀, hg0⟩ := Option.isSome_iff_exists.mp h.top
  obtain ⟨r, hr⟩ := State.topJava?_eq_some.mp hg0
  have hr' : (({ U with heap := s₂.heap, slotsUsed := s₂.slotsUsed } : State).setVm s₂.vm).frames = .java g₀ :: r := hr
  rcases hq' with ⟨hqc, L, hfe, hL⟩ | ⟨q, rfl, E, ce, L, hx, hce, hcv, hcl, hW₂, hsm, hL⟩
  · obtain ⟨⟨v, rfl⟩, hW₂, e2, q2, q3, q4, q5, q6⟩ := id hfe
    have e3 : s₂ = ({ (U.calling g mk a).setFrames s₂.frames with heap := s₂.heap, slotsUsed := s₂.slotsUsed } : State).setVm s₂.vm := by
      have : s₂ = ({ s₂ with vm := (U.calling g mk a).vm } : State).setVm s₂.vm := rfl
      rw [e2] at this
      exact this
    obtain ⟨c₂, i₂, len₂, hc₂, hd₂, hf₂⟩ := hend
    have hW' : U.WarmedH s₂.vm := hW₂
    have hcc : c₂ = c := by
      have h1 : s₂.code? g.method = U.code? g.method := by
        rw [State.code?_eq, State.code?_eq, hW'.alike.method?]
      exact Option.some.inj (hc₂.symm.trans (h1.trans h.code))
    subst hcc
    have hlen : len₂ = len := by rw [hdg] at hd₂; cases hd₂; rfl
    subst hlen
    have hs₂ : s₂ = (({ U with heap := s₂.heap, slotsUsed := s₂.slotsUsed } : State).setVm s₂.vm).setTop { g with pc := g.pc + len₂, stack := v.toList ++ g.stack } := by
      refine e3.trans ?_
      rw [hf₂, State.calling_eq h.top, State.setFrames_setFrames, State.setTop_of_frames _ hr', hr]
      rfl
    have hsame : U.sameButNew ({ U with heap := s₂.heap, slotsUsed := s₂.slotsUsed } : State) L mc ms := by
      refine ⟨?_, q2, q3, q4, q5, q6⟩
      obtain ⟨t, ht, -⟩ := State.frames_cons hr
      show ({ U with heap := s₂.heap, slotsUsed := s₂.slotsUsed } : State) = { U.setFrames U.frames with heap := s₂.heap, slotsUsed := s₂.slotsUsed }
      rw [State.setFrames_self ht]
    subst hg
    refine Or.inl ⟨v, ⟨(({ U with heap := s₂.heap, slotsUsed := s₂.slotsUsed } : State).setVm s₂.vm), Ls ++ L, c0 + mc, s0 + ms⟩,
      ⟨X.admits, X.cas, X.clock, X.frames, X.room, X.hears, X.method, X.code, (X.here.setHeapUsed s₂.heap s₂.slotsUsed).setVm hW'.alike, X.tail, State.WarmedH.trans X.warmed hW', X.limits, X.bytes, X.same.trans (hsame.setVm s.vm)⟩,
      ⟨g, mk, s₂, L, rfl, rfl, hqc, rfl, hL, rfl, rfl⟩, ?_⟩
    show Steps p.tables e below _ ((({ U with heap := s₂.heap, slotsUsed := s₂.slotsUsed } : State).setVm s₂.vm).setTop { g with pc := g.pc + len₂, stack := v.toList ++ g.stack })
    rw [← hs₂]
    exact hsteps
  · obtain ⟨e2, q2, q3, q4, q5, q6⟩ := id hsm
    have e3 : s₂ = ({ (U.calling g mk a).setFrames s₂.frames with heap := s₂.heap, slotsUsed := s₂.slotsUsed } : State).setVm s₂.vm := by
      have : s₂ = ({ s₂ with vm := (U.calling g mk a).vm } : State).setVm s₂.vm := rfl
      rw [e2] at this
      exact this
    have hf₂ : s₂.frames = .throwing q :: .java g :: U.frames.tail := hend
    have hW' : U.WarmedH s₂.vm := hW₂
    have hs₂ : s₂ = ((({ U with heap := s₂.heap, slotsUsed := s₂.slotsUsed } : State).setVm s₂.vm).setTop g).pushFrame (.throwing q) := by
      refine e3.trans ?_
      rw [hf₂, State.calling_eq h.top, State.setFrames_setFrames, State.pushFrame, State.frames_setTop _ hr', State.setTop_of_frames _ hr', State.setFrames_setFrames, hr]
      rfl
    have hsame : U.sameButNew ({ U with heap := s₂.heap, slotsUsed := s₂.slotsUsed } : State) L mc ms := by
      refine ⟨?_, q2, q3, q4, q5, q6⟩
      obtain ⟨t, ht, -⟩ := State.frames_cons hr
      show ({ U with heap := s₂.heap, slotsUsed := s₂.slotsUsed } : State) = { U.setFrames U.frames with heap := s₂.heap, slotsUsed := s₂.slotsUsed }
      rw [State.setFrames_self ht]
    subst hg
    refine Or.inr ⟨q, ⟨(({ U with heap := s₂.heap, slotsUsed := s₂.slotsUsed } : State).setVm s₂.vm), Ls ++ L, c0 + mc, s0 + ms⟩,
      ⟨X.admits, X.cas, X.clock, X.frames, X.room, X.hears, X.method, X.code, (X.here.setHeapUsed s₂.heap s₂.slotsUsed).setVm hW'.alike, X.tail, State.WarmedH.trans X.warmed hW', X.limits, X.bytes, X.same.trans (hsame.setVm s.vm)⟩,
      ⟨g, mk, s₂, L, E, ce, rfl, rfl, hx, hce, hcv, hcl, rfl, hL, rfl, rfl⟩, ?_⟩
    show Steps p.tables e below _ (((({ U with heap := s₂.heap, slotsUsed := s₂.slotsUsed } : State).setVm s₂.vm).setTop g).pushFrame (.throwing q))
    rw [← hs₂]
    exact hsteps
end
variable {p : Program} {l : Launch} {e : Env} {R : Room} {s : State} {m : MethodId} {args : Array Value} {below : List Frame} {meth : Method} {c : Code} {T : State} {H : Heap} {locs : List Loc} {cells slots : Nat}
theorem vx_callVX (X : Stand p l e R s m args below meth c T locs cells slots) (hexec : p.tables.exec = Jvm.exec) {own C : String} {index : Nat} {y : MethodName} {bytes : ByteArray} {maxL : Nat} {ret : Option FieldType} {hh : List (Nat × Nat × Nat × Nat)}
    (hown : s.vm.findClass own = some m.cls) (hlink : (Cond.methodLink own index y).before args s = true) (hinst : (Cond.instanceMethod y).before args s = true) (hsel : (Cond.selects C y y).before args s = true)
    (hcode : (Cond.codeWith y bytes maxL ret hh).before args s = true) (hy : y.cls ≠ "java/lang/invoke/MethodHandle" ∧ y.cls ≠ "java/lang/invoke/VarHandle")
    {W9 : Nat} {Pre : Pt → Array Value → Prop} {Post : Pt → Array Value → Option Value → Pt → Prop} {PostX : Pt → Array Value → Addr → Pt → Prop} (hK : vx_Back l R p e below s args y 3 W9 Pre Post PostX)
    {b : Addr} {cellB : Cell} (hcell : T.heap[b]? = some cellB) (hobj : cellB.vm.isStatics = false) (hcls : s.vm.findClass C = some cellB.cls)
    {g : JFrame} (hg : g.method = m) (hsize : g.locals.size = c.maxLocals) {argsL rest : List Value} (hlen : ∀ sig, parseMethodDescriptor y.desc = some sig → argsL.length = sig.parameters.length)
    (hstack : g.stack = argsL.reverse ++ .ref b :: rest) (hW : 2 * g.monitorRoom + (rest.map fun v => v.category).sum ≤ W9) (hdg : decode c.code g.pc = .ok (.invokevirtual index, 3))
    (hpre : ∀ vm₁, s.WarmedH vm₁ → Pre ⟨T.setVm vm₁, locs, cells, slots⟩ (Value.ref b :: argsL).toArray) :
    (∃ (v : Option Value) (vm₁ : Vm) (B : Pt), s.WarmedH vm₁ ∧ Stand p l e R s m args below meth c B.U B.locs B.cells B.slots ∧ Post ⟨T.setVm vm₁, locs, cells, slots⟩ (Value.ref b :: argsL).toArray v B ∧
      ∀ target, Steps p.tables e below (B.U.setTop { g with pc := g.pc + 3, stack := v.toList ++ rest }) target → Steps p.tables e below (T.setTop g) target) ∨
    (∃ (q : Addr) (vm₁ : Vm) (B : Pt), s.WarmedH vm₁ ∧ Stand p l e R s m args below meth c B.U B.locs B.cells B.slots ∧ PostX ⟨T.setVm vm₁, locs, cells, slots⟩ (Value.ref b :: argsL).toArray q B ∧
      Steps p.tables e below (T.setTop g) ((B.U.setTop { g with stack := rest }).pushFrame (.throwing q))) := by
  obtain ⟨mk, methM, hnamed, hmethM, hstM, habM⟩ := Cond.instanceMethod_spec hinst
  obtain ⟨m8, methM', cM, hn8, hmethM', -, -, -, -, -, -, hsigM⟩ := Cond.codeWith_spec hcode
  cases Option.some.inj (hn8.symm.trans hnamed)
  cases hmethM.symm.trans hmethM'
  obtain ⟨c2, r2, m2, q1, q2, q3, q4, kP, hkP, hkPi⟩ := Cond.selects_spec hsel
  cases hcls.symm.trans q1
  cases (State.methodFound?_of_named hnamed hy).symm.trans q2
  cases hnamed.symm.trans q3
  have hselP : selectMethod e.platform s.vm cellB.cls mk = .method mk := by rw [Launch.admits_selectMethod X.admits]; exact q4
  obtain ⟨vm₁, X₁, hstep₁⟩ := X.invokevirtual hexec hown hlink hnamed hmethM hstM hkP hkPi hy (a := b) (cell := cellB) hcell
    (fun z h => by rw [h] at hobj; cases hobj) hselP hmethM habM hkP hkPi (g := g) hg (argsL := argsL) (rest := rest) (hlen _ hsigM) hstack hdg
  rcases hK m meth c ⟨T.setVm vm₁, locs, cells, slots⟩ { g with stack := rest } (.invokevirtual index) mk (Value.ref b :: argsL).toArray X₁ hg hsize hdg hW (X₁.named hnamed) (hpre vm₁ X₁.warmed) with ⟨v, B, X', hpost, hsteps⟩ | ⟨q, B, X', hpost, hsteps⟩
  · exact Or.inl ⟨v, vm₁, B, X₁.warmed, X', hpost, fun target h => hstep₁ _ fun acts => by rw [doInvoke_state]; exact hsteps.trans h⟩
  · exact Or.inr ⟨q, vm₁, B, X₁.warmed, X', hpost, hstep₁ _ fun acts => by rw [doInvoke_state]; exact hsteps⟩
theorem vx_callSX (X : Stand p l e R s m args below meth c T locs cells slots) (hexec : p.tables.exec = Jvm.exec) {own : String} {index : Nat} {y : MethodName} {bytes : ByteArray} {maxL : Nat} {ret : Option FieldType} {hh : List (Nat × Nat × Nat × Nat)}
    (hown : s.vm.findClass own = some m.cls) (hlink : (Cond.methodLink own index y).before args s = true) (hstat : (Cond.static y).before args s = true) (hinit : (Cond.initialized y.cls).before args s = true)
    (hcode : (Cond.codeWith y bytes maxL ret hh).before args s = true) (hy : y.cls ≠ "java/lang/invoke/MethodHandle" ∧ y.cls ≠ "java/lang/invoke/VarHandle")
    {W9 : Nat} {Pre : Pt → Array Value → Prop} {Post : Pt → Array Value → Option Value → Pt → Prop} {PostX : Pt → Array Value → Addr → Pt → Prop} (hK : vx_Back l R p e below s args y 3 W9 Pre Post PostX)
    {g : JFrame} (hg : g.method = m) (hsize : g.locals.size = c.maxLocals) {argsL rest : List Value} (hlen : ∀ sig, parseMethodDescriptor y.desc = some sig → argsL.length = sig.parameters.length)
    (hstack : g.stack = argsL.reverse ++ rest) (hW : 2 * g.monitorRoom + (rest.map fun v => v.category).sum ≤ W9) (hdg : decode c.code g.pc = .ok (.invokestatic index, 3))
    (hpre : ∀ vm₁, s.WarmedH vm₁ → Pre ⟨T.setVm vm₁, locs, cells, slots⟩ argsL.toArray) :
    (∃ (v : Option Value) (vm₁ : Vm) (B : Pt), s.WarmedH vm₁ ∧ Stand p l e R s m args below meth c B.U B.locs B.cells B.slots ∧ Post ⟨T.setVm vm₁, locs, cells, slots⟩ argsL.toArray v B ∧
      ∀ target, Steps p.tables e below (B.U.setTop { g with pc := g.pc + 3, stack := v.toList ++ rest }) target → Steps p.tables e below (T.setTop g) target) ∨
    (∃ (q : Addr) (vm₁ : Vm) (B : Pt), s.WarmedH vm₁ ∧ Stand p l e R s m args below meth c B.U B.locs B.cells B.slots ∧ PostX ⟨T.setVm vm₁, locs, cells, slots⟩ argsL.toArray q B ∧
      Steps p.tables e below (T.setTop g) ((B.U.setTop { g with stack := rest }).pushFrame (.throwing q))) := by
  obtain ⟨mk, methM, cM, hnamed, hmethM, -, -, -, -, -, -, hsigM⟩ := Cond.codeWith_spec hcode
  have hstatic : methM.isStatic = true := Cond.static_spec hnamed hmethM hstat
  obtain ⟨kP, hkP, -⟩ := className_of_methodNamed hnamed
  have hinitP : kP.init = .initialized := Cond.initialized_spec (findClass_of_methodNamed hnamed) hkP hinit
  obtain ⟨vm₁, X₁, hstep₁⟩ := X.invokestatic hexec hown hlink hnamed hmethM hstatic hkP hinitP hy (g := g) hg (argsL := argsL) (rest := rest) (hlen _ hsigM) hstack hdg
  rcases hK m meth c ⟨T.setVm vm₁, locs, cells, slots⟩ { g with stack := rest } (.invokestatic index) mk argsL.toArray X₁ hg hsize hdg hW (X₁.named hnamed) (hpre vm₁ X₁.warmed) with ⟨v, B, X', hpost, hsteps⟩ | ⟨q, B, X', hpost, hsteps⟩
  · exact Or.inl ⟨v, vm₁, B, X₁.warmed, X', hpost, fun target h => hstep₁ _ fun acts => by rw [doInvoke_state]; exact hsteps.trans h⟩
  · exact Or.inr ⟨q, vm₁, B, X₁.warmed, X', hpost, hstep₁ _ fun acts => by rw [doInvoke_state]; exact hsteps⟩
theorem vx_callVW (X : Stand p l e R s m args below meth c T locs cells slots) (hexec : p.tables.exec = Jvm.exec) {own C : String} {index : Nat} {y : MethodName} {bytes : ByteArray} {maxL : Nat} {ret : Option FieldType} {hh : List (Nat × Nat × Nat × Nat)}
    (hown : s.vm.findClass own = some m.cls) (hlink : (Cond.methodLink own index y).before args s = true) (hinst : (Cond.instanceMethod y).before args s = true) (hsel : (Cond.selects C y y).before args s = true)
    (hcode : (Cond.codeWith y bytes maxL ret hh).before args s = true) (hy : y.cls ≠ "java/lang/invoke/MethodHandle" ∧ y.cls ≠ "java/lang/invoke/VarHandle")
    {W9 : Nat} {Pre : Pt → Array Value → Prop} {Post : Pt → Array Value → Option Value → Pt → Prop} (hK : Back l R p e below s args y 3 W9 Pre Post)
    {b : Addr} {cellB : Cell} (hcell : T.heap[b]? = some cellB) (hobj : cellB.vm.isStatics = false) (hcls : s.vm.findClass C = some cellB.cls)
    {g : JFrame} (hg : g.method = m) (hsize : g.locals.size = c.maxLocals) {argsL rest : List Value} (hlen : ∀ sig, parseMethodDescriptor y.desc = some sig → argsL.length = sig.parameters.length)
    (hstack : g.stack = argsL.reverse ++ .ref b :: rest) (hW : 2 * g.monitorRoom + (rest.map fun v => v.category).sum ≤ W9) (hdg : decode c.code g.pc = .ok (.invokevirtual index, 3))
    (hpre : ∀ vm₁, s.WarmedH vm₁ → Pre ⟨T.setVm vm₁, locs, cells, slots⟩ (Value.ref b :: argsL).toArray) :
    ∃ (v : Option Value) (vm₁ : Vm) (B : Pt), s.WarmedH vm₁ ∧ Stand p l e R s m args below meth c B.U B.locs B.cells B.slots ∧ Post ⟨T.setVm vm₁, locs, cells, slots⟩ (Value.ref b :: argsL).toArray v B ∧
      ∀ target, Steps p.tables e below (B.U.setTop { g with pc := g.pc + 3, stack := v.toList ++ rest }) target → Steps p.tables e below (T.setTop g) target := by
  obtain ⟨mk, methM, hnamed, hmethM, hstM, habM⟩ := Cond.instanceMethod_spec hinst
  obtain ⟨m8, methM', cM, hn8, hmethM', -, -, -, -, -, -, hsigM⟩ := Cond.codeWith_spec hcode
  cases Option.some.inj (hn8.symm.trans hnamed)
  cases hmethM.symm.trans hmethM'
  obtain ⟨c2, r2, m2, q1, q2, q3, q4, kP, hkP, hkPi⟩ := Cond.selects_spec hsel
  cases hcls.symm.trans q1
  cases (State.methodFound?_of_named hnamed hy).symm.trans q2
  cases hnamed.symm.trans q3
  have hselP : selectMethod e.platform s.vm cellB.cls mk = .method mk := by rw [Launch.admits_selectMethod X.admits]; exact q4
  obtain ⟨vm₁, X₁, hstep₁⟩ := X.invokevirtual hexec hown hlink hnamed hmethM hstM hkP hkPi hy (a := b) (cell := cellB) hcell
    (fun z h => by rw [h] at hobj; cases hobj) hselP hmethM habM hkP hkPi (g := g) hg (argsL := argsL) (rest := rest) (hlen _ hsigM) hstack hdg
  obtain ⟨v, B, X', hpost, hsteps⟩ := hK m meth c ⟨T.setVm vm₁, locs, cells, slots⟩ { g with stack := rest } (.invokevirtual index) mk (Value.ref b :: argsL).toArray X₁ hg hsize hdg hW (X₁.named hnamed) (hpre vm₁ X₁.warmed)
  exact ⟨v, vm₁, B, X₁.warmed, X', hpost, fun target h => hstep₁ _ fun acts => by rw [doInvoke_state]; exact hsteps.trans h⟩
abbrev vx_CVW (R : Room) (s : State) (args : Array Value) (own C : String) (index : Nat) (y : MethodName) (bytes : ByteArray) (maxL : Nat) (ret : Option FieldType) (hh : List (Nat × Nat × Nat × Nat)) (ws : List Cond) (rm : Room) (mc ms n : Nat) : Prop :=
  (rm.cells = mc ∧ rm.slots = ms ∧ rm.frames + 1 ≤ R.frames ∧ 8 + (maxL + 11) + rm.locals ≤ R.locals ∧ (∀ w ∈ ws, ∀ (a' : Array Value) (U : State), s.WarmedH U.vm → w.before a' U = true) ∧ Cond.codeWith y bytes maxL ret hh ∈ ws) ∧
  (Cond.codeWith y bytes maxL ret hh).before args s = true ∧ (Cond.initialized y.cls).before args s = true ∧ (y.cls ≠ "java/lang/invoke/MethodHandle" ∧ y.cls ≠ "java/lang/invoke/VarHandle") ∧
  (∀ sig, parseMethodDescriptor y.desc = some sig → n = sig.parameters.length) ∧ (Cond.methodLink own index y).before args s = true ∧ (Cond.instanceMethod y).before args s = true ∧ (Cond.selects C y y).before args s = true
theorem vx_cwVW {own C : String} {index maxL mc ms : Nat} {y : MethodName} {bytes : ByteArray} {ret : Option FieldType} {hh : List (Nat × Nat × Nat × Nat)} {Ts ws ws' : List Cond} {rm : Room} (n : Nat) (ht : ∀ w ∈ Ts, w.before args s = true) (hT : GoodIn Ts (wsV own index C y ws)) (hw : ws = Cond.codeWith y bytes maxL ret hh :: ws') (hrc : rm.cells = mc) (hrs : rm.slots = ms)
    (hd : y.cls = C ∧ y.cls ≠ "java/lang/invoke/MethodHandle" ∧ y.cls ≠ "java/lang/invoke/VarHandle" ∧ (parseMethodDescriptor y.desc).map (fun d => d.parameters.length) = some n) (hR : rm.frames + 1 ≤ R.frames ∧ 8 + (maxL + 11) + rm.locals ≤ R.locals) :
    vx_CVW R s args own C index y bytes maxL ret hh ws rm mc ms n := by
  obtain ⟨hC, hd⟩ := hd
  subst hC
  have ok : ∀ w ∈ wsV own index y.cls y ws, w.before args s = true := fun w h => ht w (hT w h).1
  have hG : GoodIn Ts ws := fun w h => hT w (by unfold wsV; exact List.mem_append_right _ h)
  have hc : Cond.codeWith y bytes maxL ret hh ∈ ws := by rw [hw]; exact List.mem_cons_self
  refine ⟨⟨hrc, hrs, hR.1, hR.2, pay_in ht hG, hc⟩, ht _ (hG _ hc).1, ok _ (by simp [wsV]), ⟨hd.1, hd.2.1⟩, fun sig h => ?_, ok _ (by simp [wsV]), ok _ (by simp [wsV]), ok _ (by simp [wsV])⟩
  have h2 := hd.2.2
  rw [h] at h2
  exact (Option.some.inj h2).symm
theorem vx_runVW {y : MethodName} {bytes cc : ByteArray} {maxL nL mc ms n index : Nat} {ret : Option FieldType} {hh : List (Nat × Nat × Nat × Nat)} {ws : List Cond} {rm : Room} {Pc : Array Value → State → Prop} {Qc : Array Value → State → Outcome → State → Prop} {free : Addr → Prop} {Ts : List Cond} {own C : String} {b : Addr} {As rest : List Value} {g : JFrame}
    (S : CallFix p m c cc nL s args Ts own) (hM : Met l y ws rm Pc Qc mc ms free) (cw : vx_CVW R s args own C index y bytes maxL ret hh ws rm mc ms n) (hp : PreV s H C b Pc As)
    (hg : g.method = m) (hn : As.length = n) (hsize : g.locals.size = nL) (hstack : g.stack = As.reverse ++ .ref b :: rest) (hW : 2 * g.monitorRoom + (rest.map fun v => v.category).sum ≤ 8) (hdg : decode cc g.pc = .ok (.invokevirtual index, 3)) (hf : cells + mc ≤ R.cells ∧ slots + ms ≤ R.slots) :
    va_Run p l e R s m args below meth c H locs cells slots mc ms g rest (Qc (Value.ref b :: As).toArray) free := by
  obtain ⟨⟨hrc, hrs, hfr, hlo, hws, hcw⟩, hcode, hini, hy, hlen, hl, hin, hse⟩ := cw
  have hK : Back l R p e below s args y 3 8 (PreOf R mc ms Pc) (PostOf Qc mc ms free) := va_backW (hh := hh) (bytes := bytes) (maxL := maxL) (ret := ret) hM hp.1 hrc hrs hfr hlo hws hcw (fun a' U hW => word_at hW (Or.inl (by first | rfl | simp [Cond.onTables, Cond.keeps, Cond.steady])) hini)
  obtain ⟨hx, hb, hml, ho, -⟩ := S
  obtain ⟨-, ⟨cellB, hcB, hoB, hclB⟩, hPc⟩ := hp
  intro T hT X
  obtain ⟨v, vm₁, ⟨U', l2, c2, s2⟩, hW₁, X', ⟨g', mk, t, L, e1, e2, hq, h1, hL, h2, h3⟩, st⟩ := vx_callVW X hx (C := C) (hh := hh) (bytes := bytes) (maxL := maxL) (ret := ret) ho hl hin hse hcode hy hK (by rw [hT]; exact hcB) hoB hclB hg (hsize.trans hml.symm) (argsL := As) (rest := rest) (fun sig h => hn.trans (hlen sig h)) hstack hW (by rw [hb]; exact hdg)
    (fun vm₁ hW₁ => ⟨hf.1, hf.2, hPc (T.setVm vm₁) hT hW₁⟩)
  dsimp only [Pt.U, Pt.locs, Pt.cells, Pt.slots] at X' e1 e2 h1 h2 h3 st
  subst h1; subst h2; subst h3
  exact ⟨v, (T.setVm vm₁).calling g' mk (Value.ref b :: As).toArray, t, U', L, hT, X', hL, e1, e2, hq, st⟩
section
variable {y : MethodName} {bytes cc : ByteArray} {maxL nL mc ms n index : Nat} {ret : Option FieldType} {ws : List Cond} {rm : Room} {Pc : Array Value → State → Prop} {Qc : Array Value → State → Outcome → State → Prop} {XC : String → State → State → Prop} {free : Addr → Prop} {Ts : List Cond} {own C : String} {b : Addr} {As rest : List Value} {g : JFrame}
theorem vx_runVX {hh : List (Nat × Nat × Nat × Nat)} (S : CallFix p m c cc nL s args Ts own) (hM : vx_Met l y ws rm Pc Qc XC mc ms free) (cw : vx_CVW R s args own C index y bytes maxL ret hh ws rm mc ms n) (hp : PreV s H C b Pc As)
    (hg : g.method = m) (hn : As.length = n) (hsize : g.locals.size = nL) (hstack : g.stack = As.reverse ++ .ref b :: rest) (hW : 2 * g.monitorRoom + (rest.map fun v => v.category).sum ≤ 8) (hdg : decode cc g.pc = .ok (.invokevirtual index, 3)) (hf : cells + mc ≤ R.cells ∧ slots + ms ≤ R.slots) :
    vx_Run p l e R s m args below meth c H locs cells slots mc ms g rest (Qc (Value.ref b :: As).toArray) XC free := by
  obtain ⟨⟨hrc, hrs, hfr, hlo, hws, hcw⟩, hcode, hini, hy, hlen, hl, hin, hse⟩ := cw
  have hK : vx_Back l R p e below s args y 3 8 (PreOf R mc ms Pc) (PostOf Qc mc ms free) (vx_Post XC mc ms free) := vx_backW (hh := hh) (bytes := bytes) (maxL := maxL) (ret := ret) hM hp.1 hrc hrs hfr hlo hws hcw (fun a' U hW => word_at hW (Or.inl (by first | rfl | simp [Cond.onTables, Cond.keeps, Cond.steady])) hini)
  obtain ⟨hx, hb, hml, ho, -⟩ := S
  obtain ⟨-, ⟨cellB, hcB, hoB, hclB⟩, hPc⟩ := hp
  intro T hT X
  rcases vx_callVX X hx (C := C) (hh := hh) (bytes := bytes) (maxL := maxL) (ret := ret) ho hl hin hse hcode hy hK (by rw [hT]; exact hcB) hoB hclB hg (hsize.trans hml.symm) (argsL := As) (rest := rest) (fun sig h => hn.trans (hlen sig h)) hstack hW (by rw [hb]; exact hdg)
    (fun vm₁ hW₁ => ⟨hf.1, hf.2, hPc (T.setVm vm₁) hT hW₁⟩) with ⟨v, vm₁, ⟨U', l2, c2, s2⟩, hW₁, X', ⟨g', mk, t, L, e1, e2, hq, h1, hL, h2, h3⟩, st⟩ | ⟨q, vm₁, ⟨U', l2, c2, s2⟩, hW₁, X', ⟨g', mk, t, L, E, ce, e1, e2, hq, hce, hcv, hcl, h1, hL, h2, h3⟩, st⟩
  · dsimp only [Pt.U, Pt.locs, Pt.cells, Pt.slots] at X' e1 e2 h1 h2 h3 st
    subst h1; subst h2; subst h3
    exact Or.inl ⟨v, (T.setVm vm₁).calling g' mk (Value.ref b :: As).toArray, t, U', L, hT, X', hL, e1, e2, hq, st⟩
  · dsimp only [Pt.U, Pt.locs, Pt.cells, Pt.slots] at X' e1 e2 h1 h2 h3 st hcl
    subst h1; subst h2; subst h3
    exact Or.inr ⟨q, (T.setVm vm₁).calling g' mk (Value.ref b :: As).toArray, t, U', L, E, ce, hT, X', hL, e1, e2, hq, hce, hcv, vx_cls hW₁ hcl, st⟩
theorem vx_runSX {hh : List (Nat × Nat × Nat × Nat)} (S : CallFix p m c cc nL s args Ts own) (hM : vx_Met l y ws rm Pc Qc XC mc ms free) (cw : vx_CSW R s args own index y bytes maxL ret hh ws rm mc ms n) (hp : PreS s H Pc As)
    (hg : g.method = m) (hn : As.length = n) (hsize : g.locals.size = nL) (hstack : g.stack = As.reverse ++ rest) (hW : 2 * g.monitorRoom + (rest.map fun v => v.category).sum ≤ 8) (hdg : decode cc g.pc = .ok (.invokestatic index, 3)) (hf : cells + mc ≤ R.cells ∧ slots + ms ≤ R.slots) :
    vx_Run p l e R s m args below meth c H locs cells slots mc ms g rest (Qc As.toArray) XC free := by
  obtain ⟨⟨hrc, hrs, hfr, hlo, hws, hcw⟩, hcode, hini, hy, hlen, hl, hstt⟩ := cw
  have hK : vx_Back l R p e below s args y 3 8 (PreOf R mc ms Pc) (PostOf Qc mc ms free) (vx_Post XC mc ms free) := vx_backW (hh := hh) (bytes := bytes) (maxL := maxL) (ret := ret) hM hp.1 hrc hrs hfr hlo hws hcw (fun a' U hW => word_at hW (Or.inl (by first | rfl | simp [Cond.onTables, Cond.keeps, Cond.steady])) hini)
  obtain ⟨hx, hb, hml, ho, -⟩ := S
  intro T hT X
  rcases vx_callSX X hx (hh := hh) (bytes := bytes) (maxL := maxL) (ret := ret) ho hl hstt hini hcode hy hK hg (hsize.trans hml.symm) (argsL := As) (rest := rest) (fun sig h => hn.trans (hlen sig h)) hstack hW (by rw [hb]; exact hdg)
    (fun vm₁ hW₁ => ⟨hf.1, hf.2, hp.2 (T.setVm vm₁) hT hW₁⟩) with ⟨v, vm₁, ⟨U', l2, c2, s2⟩, hW₁, X', ⟨g', mk, t, L, e1, e2, hq, h1, hL, h2, h3⟩, st⟩ | ⟨q, vm₁, ⟨U', l2, c2, s2⟩, hW₁, X', ⟨g', mk, t, L, E, ce, e1, e2, hq, hce, hcv, hcl, h1, hL, h2, h3⟩, st⟩
  · dsimp only [Pt.U, Pt.locs, Pt.cells, Pt.slots] at X' e1 e2 h1 h2 h3 st
    subst h1; subst h2; subst h3
    exact Or.inl ⟨v, (T.setVm vm₁).calling g' mk As.toArray, t, U', L, hT, X', hL, e1, e2, hq, st⟩
  · dsimp only [Pt.U, Pt.locs, Pt.cells, Pt.slots] at X' e1 e2 h1 h2 h3 st hcl
    subst h1; subst h2; subst h3
    exact Or.inr ⟨q, (T.setVm vm₁).calling g' mk As.toArray, t, U', L, E, ce, hT, X', hL, e1, e2, hq, hce, hcv, vx_cls hW₁ hcl, st⟩
end
end VXH
theorem vx_ofWH {l : Launch} {y : MethodName} {ws ws' : List Cond} {rm : Room} {Pc : Array Value → State → Prop} {Qc : Array Value → State → Outcome → State → Prop} {XC : String → State → State → Prop} {mc ms : Nat} {free : Addr → Prop} {cc : ByteArray} {maxL : Nat} {ret : Option FieldType} {hh : List (Nat × Nat × Nat × Nat)}
    (hy : plainName y.cls = true) (hw : ws = Cond.codeWith y cc maxL ret hh :: ws')
    (body : ∀ p e s m args below meth c s₁, BodyLoose p l y (headSpec ws rm) cc maxL ret e s m args below meth c s₁ → c.maxLocals = maxL → Pc args s →
      W p l e (headSpec ws rm).room s m args below meth c s.heap [] 0 0 (vx_MQ below Qc XC args s mc ms free) (entryFrame m args maxL)) : vx_Met l y ws rm Pc Qc XC mc ms free := by
  refine MetFree.of_bodyS (code := cc) (maxLocals := maxL) (ret := ret) hy ?_ ?_
  · intro args s m h hn
    obtain ⟨m9, meth, c, hn9, h1, h2, h3, h4, -, h5, h6, -⟩ := Cond.codeWith_spec (atoms_spec (ws := ws) h _ (by rw [hw]; exact List.mem_cons_self))
    cases hn.symm.trans hn9
    exact ⟨meth, c, h1, h2, h3, h4, h5, h6⟩
  · intro p e s m args below meth c s₁ B hml hP _
    have hh0 : s₁.heap = s.heap := by rw [B.state]; rfl
    obtain ⟨t, a1, o, b1, b2, b3⟩ := body p e s m args below meth c s₁ B hml hP s₁ hh0 (Stand.of_body B)
    exact ⟨t, o, a1, b1, b2, b3⟩
/-! ===== END ===== -/
end
section
-- names (printed by wip/gen/names.py out of the class files and the table of words)
def TT : List Cond := lw_tbl.filter goodWord
theorem tt_in {w : Cond} (i : Nat) (h : lw_tbl[i]? = some w) (g : goodWord w = true) : w ∈ TT := List.mem_filter.mpr ⟨List.mem_of_getElem? h, g⟩
theorem tt_good : ∀ w ∈ TT, goodWord w = true := fun w h => (List.mem_filter.mp h).2
def R_C : String := "CeilingDispatch"
def R_T : String := "CeilingDispatch$Task"
def R_H : String := "CeilingDispatch$Thing"
def R_N : String := "CeilingDispatch$NoteBook"
def R_M : String := "CeilingDispatchModel"
def R_L : String := "CeilingDispatchLaw"
def R_J : String := "java/lang/Math"
def F_C : u_T := fun k => match k with
  | 0 => ("CeilingDispatch", "tasks", "[LCeilingDispatch$Task;", true)
  | 1 => ("CeilingDispatch", "things", "[LCeilingDispatch$Thing;", true)
  | 2 => ("CeilingDispatch", "book", "LCeilingDispatch$NoteBook;", true)
  | 3 => ("CeilingDispatch", "sealed", "Z", false)
  | 4 => ("CeilingDispatch", "clock", "I", false)
  | 5 => ("CeilingDispatch", "releases", "I", false)
  | _ => ("CeilingDispatch", "runner", "I", false)
def ft_C : Nat → FieldType := fun k => match k with
  | 0 => .array (.object "CeilingDispatch$Task")
  | 1 => .array (.object "CeilingDispatch$Thing")
  | 2 => .object "CeilingDispatch$NoteBook"
  | 3 => .boolean
  | 4 => .int
  | 5 => .int
  | _ => .int
theorem n_C : ∀ a, a < 7 → ∀ b, b < 7 → a ≠ b → (F_C a).2.1 ≠ (F_C b).2.1 := by decide +kernel
theorem ft_C_ok : ∀ k, k < 7 → parseFieldDescriptor (F_C k).2.2.1 = some (ft_C k) := by decide +kernel
theorem in_C : ∀ w ∈ u_ws R_C F_C 7, w ∈ TT := by
  have h : u_ws R_C F_C 7 = [136, 138, 140, 142, 144, 146, 148].filterMap (fun i => lw_tbl[i]?) := by decide +kernel
  have g : (u_ws R_C F_C 7).all goodWord = true := by decide +kernel
  intro w hw
  refine List.mem_filter.mpr ⟨?_, List.all_eq_true.mp g w hw⟩
  rw [h] at hw
  obtain ⟨i, -, hi⟩ := List.mem_filterMap.mp hw
  exact List.mem_of_getElem? hi
def F_T : u_T := fun k => match k with
  | 0 => ("CeilingDispatch$Task", "base", "I", false)
  | 1 => ("CeilingDispatch$Task", "cost", "I", false)
  | 2 => ("CeilingDispatch$Task", "period", "I", false)
  | 3 => ("CeilingDispatch$Task", "lengths", "[I", true)
  | 4 => ("CeilingDispatch$Task", "ready", "Z", false)
  | 5 => ("CeilingDispatch$Task", "priority", "I", false)
  | 6 => ("CeilingDispatch$Task", "turn", "I", false)
  | 7 => ("CeilingDispatch$Task", "lastTaken", "I", false)
  | 8 => ("CeilingDispatch$Task", "work", "I", false)
  | _ => ("CeilingDispatch$Task", "delay", "I", false)
def ft_T : Nat → FieldType := fun k => match k with
  | 0 => .int
  | 1 => .int
  | 2 => .int
  | 3 => .array .int
  | 4 => .boolean
  | 5 => .int
  | 6 => .int
  | 7 => .int
  | 8 => .int
  | _ => .int
theorem n_T : ∀ a, a < 10 → ∀ b, b < 10 → a ≠ b → (F_T a).2.1 ≠ (F_T b).2.1 := by decide +kernel
theorem ft_T_ok : ∀ k, k < 10 → parseFieldDescriptor (F_T k).2.2.1 = some (ft_T k) := by decide +kernel
theorem in_T : ∀ w ∈ u_ws R_T F_T 10, w ∈ TT := by
  have h : u_ws R_T F_T 10 = [86, 88, 90, 92, 94, 96, 98, 100, 102, 104].filterMap (fun i => lw_tbl[i]?) := by decide +kernel
  have g : (u_ws R_T F_T 10).all goodWord = true := by decide +kernel
  intro w hw
  refine List.mem_filter.mpr ⟨?_, List.all_eq_true.mp g w hw⟩
  rw [h] at hw
  obtain ⟨i, -, hi⟩ := List.mem_filterMap.mp hw
  exact List.mem_of_getElem? hi
def F_H : u_T := fun k => match k with
  | 0 => ("CeilingDispatch$Thing", "ceiling", "I", false)
  | 1 => ("CeilingDispatch$Thing", "holder", "I", false)
  | 2 => ("CeilingDispatch$Thing", "takenBefore", "I", false)
  | _ => ("CeilingDispatch$Thing", "priorityBefore", "I", false)
def ft_H : Nat → FieldType := fun k => match k with
  | 0 => .int
  | 1 => .int
  | 2 => .int
  | _ => .int
theorem n_H : ∀ a, a < 4 → ∀ b, b < 4 → a ≠ b → (F_H a).2.1 ≠ (F_H b).2.1 := by decide +kernel
theorem ft_H_ok : ∀ k, k < 4 → parseFieldDescriptor (F_H k).2.2.1 = some (ft_H k) := by decide +kernel
theorem in_H : ∀ w ∈ u_ws R_H F_H 4, w ∈ TT := by
  have h : u_ws R_H F_H 4 = [120, 122, 124, 126].filterMap (fun i => lw_tbl[i]?) := by decide +kernel
  have g : (u_ws R_H F_H 4).all goodWord = true := by decide +kernel
  intro w hw
  refine List.mem_filter.mpr ⟨?_, List.all_eq_true.mp g w hw⟩
  rw [h] at hw
  obtain ⟨i, -, hi⟩ := List.mem_filterMap.mp hw
  exact List.mem_of_getElem? hi
def F_N : u_T := fun k => match k with
  | 0 => ("CeilingDispatch$NoteBook", "kept", "[I", true)
  | _ => ("CeilingDispatch$NoteBook", "made", "I", false)
def ft_N : Nat → FieldType := fun k => match k with
  | 0 => .array .int
  | _ => .int
theorem n_N : ∀ a, a < 2 → ∀ b, b < 2 → a ≠ b → (F_N a).2.1 ≠ (F_N b).2.1 := by decide +kernel
theorem ft_N_ok : ∀ k, k < 2 → parseFieldDescriptor (F_N k).2.2.1 = some (ft_N k) := by decide +kernel
theorem in_N : ∀ w ∈ u_ws R_N F_N 2, w ∈ TT := by
  have h : u_ws R_N F_N 2 = [56, 58].filterMap (fun i => lw_tbl[i]?) := by decide +kernel
  have g : (u_ws R_N F_N 2).all goodWord = true := by decide +kernel
  intro w hw
  refine List.mem_filter.mpr ⟨?_, List.all_eq_true.mp g w hw⟩
  rw [h] at hw
  obtain ⟨i, -, hi⟩ := List.mem_filterMap.mp hw
  exact List.mem_of_getElem? hi
def F_M : u_T := fun k => match k with
  | 0 => ("CeilingDispatchModel", "thrown", "I", false)
  | 1 => ("CeilingDispatchModel", "sealed", "Z", false)
  | 2 => ("CeilingDispatchModel", "clock", "I", false)
  | 3 => ("CeilingDispatchModel", "releases", "I", false)
  | 4 => ("CeilingDispatchModel", "bases", "[I", true)
  | 5 => ("CeilingDispatchModel", "costs", "[I", true)
  | 6 => ("CeilingDispatchModel", "periods", "[I", true)
  | 7 => ("CeilingDispatchModel", "turns", "[I", true)
  | 8 => ("CeilingDispatchModel", "priorities", "[I", true)
  | 9 => ("CeilingDispatchModel", "works", "[I", true)
  | 10 => ("CeilingDispatchModel", "delays", "[I", true)
  | 11 => ("CeilingDispatchModel", "lengths", "[I", true)
  | 12 => ("CeilingDispatchModel", "holders", "[I", true)
  | 13 => ("CeilingDispatchModel", "before", "[I", true)
  | 14 => ("CeilingDispatchModel", "taken", "[I", true)
  | 15 => ("CeilingDispatchModel", "takes", "I", false)
  | 16 => ("CeilingDispatchModel", "made", "I", false)
  | _ => ("CeilingDispatchModel", "kept", "[I", true)
def ft_M : Nat → FieldType := fun k => match k with
  | 0 => .int
  | 1 => .boolean
  | 2 => .int
  | 3 => .int
  | 4 => .array .int
  | 5 => .array .int
  | 6 => .array .int
  | 7 => .array .int
  | 8 => .array .int
  | 9 => .array .int
  | 10 => .array .int
  | 11 => .array .int
  | 12 => .array .int
  | 13 => .array .int
  | 14 => .array .int
  | 15 => .int
  | 16 => .int
  | _ => .array .int
theorem n_M : ∀ a, a < 18 → ∀ b, b < 18 → a ≠ b → (F_M a).2.1 ≠ (F_M b).2.1 := by decide +kernel
theorem ft_M_ok : ∀ k, k < 18 → parseFieldDescriptor (F_M k).2.2.1 = some (ft_M k) := by decide +kernel
theorem in_M : ∀ w ∈ u_ws R_M F_M 18, w ∈ TT := by
  have h : u_ws R_M F_M 18 = [452, 454, 456, 458, 460, 462, 464, 466, 468, 470, 472, 474, 476, 478, 480, 482, 484, 486].filterMap (fun i => lw_tbl[i]?) := by decide +kernel
  have g : (u_ws R_M F_M 18).all goodWord = true := by decide +kernel
  intro w hw
  refine List.mem_filter.mpr ⟨?_, List.all_eq_true.mp g w hw⟩
  rw [h] at hw
  obtain ⟨i, -, hi⟩ := List.mem_filterMap.mp hw
  exact List.mem_of_getElem? hi
abbrev cls9 : List vw_C := [(R_C, F_C, 7), (R_T, F_T, 10), (R_H, F_H, 4), (R_N, F_N, 2), (R_M, F_M, 18)]
abbrev b_C_init : ByteArray := prog_1_method_1_code
def y_C_init : MethodName := ⟨R_C, "<init>", "()V"⟩
def w_C_init : List Cond := Cond.code y_C_init b_C_init 2 none :: TT
abbrev b_C_declare : ByteArray := prog_1_method_2_code
def y_C_declare : MethodName := ⟨R_C, "declare", "(IIII)V"⟩
def w_C_declare : List Cond := Cond.code y_C_declare b_C_declare 6 none :: TT
abbrev b_C_mayUse : ByteArray := prog_1_method_3_code
def y_C_mayUse : MethodName := ⟨R_C, "mayUse", "(III)V"⟩
def w_C_mayUse : List Cond := Cond.code y_C_mayUse b_C_mayUse 4 none :: TT
abbrev b_C_seal : ByteArray := prog_1_method_4_code
def y_C_seal : MethodName := ⟨R_C, "seal", "()I"⟩
def w_C_seal : List Cond := Cond.code y_C_seal b_C_seal 2 (some .int) :: TT
abbrev b_C_release : ByteArray := prog_1_method_5_code
def y_C_release : MethodName := ⟨R_C, "release", "(I)I"⟩
def w_C_release : List Cond := Cond.code y_C_release b_C_release 2 (some .int) :: TT
abbrev b_C_take : ByteArray := prog_1_method_6_code
def y_C_take : MethodName := ⟨R_C, "take", "(I)I"⟩
def w_C_take : List Cond := Cond.code y_C_take b_C_take 4 (some .int) :: TT
abbrev b_C_give : ByteArray := prog_1_method_7_code
def y_C_give : MethodName := ⟨R_C, "give", "(I)I"⟩
def w_C_give : List Cond := Cond.code y_C_give b_C_give 4 (some .int) :: TT
abbrev b_C_finish : ByteArray := prog_1_method_8_code
def y_C_finish : MethodName := ⟨R_C, "finish", "()I"⟩
def w_C_finish : List Cond := Cond.code y_C_finish b_C_finish 2 (some .int) :: TT
abbrev b_C_pass : ByteArray := prog_1_method_9_code
def y_C_pass : MethodName := ⟨R_C, "pass", "(I)I"⟩
def w_C_pass : List Cond := Cond.code y_C_pass b_C_pass 2 (some .int) :: TT
abbrev b_C_running : ByteArray := prog_1_method_10_code
def y_C_running : MethodName := ⟨R_C, "running", "()I"⟩
def w_C_running : List Cond := Cond.code y_C_running b_C_running 1 (some .int) :: TT
abbrev b_C_priority : ByteArray := prog_1_method_11_code
def y_C_priority : MethodName := ⟨R_C, "priority", "(I)I"⟩
def w_C_priority : List Cond := Cond.code y_C_priority b_C_priority 2 (some .int) :: TT
abbrev b_C_place : ByteArray := prog_1_method_12_code
def y_C_place : MethodName := ⟨R_C, "place", "(I)I"⟩
def w_C_place : List Cond := Cond.code y_C_place b_C_place 4 (some .int) :: TT
abbrev b_C_ceiling : ByteArray := prog_1_method_13_code
def y_C_ceiling : MethodName := ⟨R_C, "ceiling", "(I)I"⟩
def w_C_ceiling : List Cond := Cond.code y_C_ceiling b_C_ceiling 2 (some .int) :: TT
abbrev b_C_holder : ByteArray := prog_1_method_14_code
def y_C_holder : MethodName := ⟨R_C, "holder", "(I)I"⟩
def w_C_holder : List Cond := Cond.code y_C_holder b_C_holder 2 (some .int) :: TT
abbrev b_C_spent : ByteArray := prog_1_method_15_code
def y_C_spent : MethodName := ⟨R_C, "spent", "(II)I"⟩
def w_C_spent : List Cond := Cond.code y_C_spent b_C_spent 3 (some .int) :: TT
abbrev b_C_blocking : ByteArray := prog_1_method_16_code
def y_C_blocking : MethodName := ⟨R_C, "blocking", "(I)I"⟩
def w_C_blocking : List Cond := Cond.code y_C_blocking b_C_blocking 2 (some .int) :: TT
abbrev b_C_response : ByteArray := prog_1_method_17_code
def y_C_response : MethodName := ⟨R_C, "response", "(I)I"⟩
def w_C_response : List Cond := Cond.code y_C_response b_C_response 4 (some .int) :: TT
abbrev b_C_notes : ByteArray := prog_1_method_18_code
def y_C_notes : MethodName := ⟨R_C, "notes", "()I"⟩
def w_C_notes : List Cond := Cond.code y_C_notes b_C_notes 1 (some .int) :: TT
abbrev b_C_note : ByteArray := prog_1_method_19_code
def y_C_note : MethodName := ⟨R_C, "note", "(I)I"⟩
def w_C_note : List Cond := Cond.code y_C_note b_C_note 2 (some .int) :: TT
abbrev b_C_isIn : ByteArray := prog_1_method_20_code
def y_C_isIn : MethodName := ⟨R_C, "isIn", "(III)Z"⟩
def w_C_isIn : List Cond := Cond.code y_C_isIn b_C_isIn 3 (some .boolean) :: TT
abbrev b_C_isThing : ByteArray := prog_1_method_21_code
def y_C_isThing : MethodName := ⟨R_C, "isThing", "(I)Z"⟩
def w_C_isThing : List Cond := Cond.code y_C_isThing b_C_isThing 1 (some .boolean) :: TT
abbrev b_C_isDeclared : ByteArray := prog_1_method_22_code
def y_C_isDeclared : MethodName := ⟨R_C, "isDeclared", "(I)Z"⟩
def w_C_isDeclared : List Cond := Cond.code y_C_isDeclared b_C_isDeclared 2 (some .boolean) :: TT
abbrev b_C_isReady : ByteArray := prog_1_method_23_code
def y_C_isReady : MethodName := ⟨R_C, "isReady", "(I)Z"⟩
def w_C_isReady : List Cond := Cond.code y_C_isReady b_C_isReady 2 (some .boolean) :: TT
abbrev b_C_isHeld : ByteArray := prog_1_method_24_code
def y_C_isHeld : MethodName := ⟨R_C, "isHeld", "(I)Z"⟩
def w_C_isHeld : List Cond := Cond.code y_C_isHeld b_C_isHeld 2 (some .boolean) :: TT
abbrev b_C_countDeclared : ByteArray := prog_1_method_25_code
def y_C_countDeclared : MethodName := ⟨R_C, "countDeclared", "()I"⟩
def w_C_countDeclared : List Cond := Cond.code y_C_countDeclared b_C_countDeclared 3 (some .int) :: TT
abbrev b_C_greatestBaseOfUsers : ByteArray := prog_1_method_26_code
def y_C_greatestBaseOfUsers : MethodName := ⟨R_C, "greatestBaseOfUsers", "(I)I"⟩
def w_C_greatestBaseOfUsers : List Cond := Cond.code y_C_greatestBaseOfUsers b_C_greatestBaseOfUsers 4 (some .int) :: TT
abbrev b_C_happened : ByteArray := prog_1_method_27_code
def y_C_happened : MethodName := ⟨R_C, "happened", "(III)V"⟩
def w_C_happened : List Cond := Cond.code y_C_happened b_C_happened 5 none :: TT
abbrev b_C_mostUrgent : ByteArray := prog_1_method_28_code
def y_C_mostUrgent : MethodName := ⟨R_C, "mostUrgent", "()I"⟩
def w_C_mostUrgent : List Cond := Cond.code y_C_mostUrgent b_C_mostUrgent 3 (some .int) :: TT
abbrev b_C_delayMoreUrgentThan : ByteArray := prog_1_method_29_code
def y_C_delayMoreUrgentThan : MethodName := ⟨R_C, "delayMoreUrgentThan", "(II)V"⟩
def w_C_delayMoreUrgentThan : List Cond := Cond.code y_C_delayMoreUrgentThan b_C_delayMoreUrgentThan 4 none :: TT
abbrev b_C_longestBlockingAt : ByteArray := prog_1_method_30_code
def y_C_longestBlockingAt : MethodName := ⟨R_C, "longestBlockingAt", "(I)I"⟩
def w_C_longestBlockingAt : List Cond := Cond.code y_C_longestBlockingAt b_C_longestBlockingAt 4 (some .int) :: TT
abbrev b_C_longestUseOfCeiling : ByteArray := prog_1_method_31_code
def y_C_longestUseOfCeiling : MethodName := ⟨R_C, "longestUseOfCeiling", "(LCeilingDispatch$Task;I)I"⟩
def w_C_longestUseOfCeiling : List Cond := Cond.code y_C_longestUseOfCeiling b_C_longestUseOfCeiling 5 (some .int) :: TT
abbrev b_C_demandOfOthers : ByteArray := prog_1_method_32_code
def y_C_demandOfOthers : MethodName := ⟨R_C, "demandOfOthers", "(II)I"⟩
def w_C_demandOfOthers : List Cond := Cond.code y_C_demandOfOthers b_C_demandOfOthers 5 (some .int) :: TT
abbrev b_T_init : ByteArray := prog_3_method_1_code
def y_T_init : MethodName := ⟨R_T, "<init>", "()V"⟩
def w_T_init : List Cond := Cond.code y_T_init b_T_init 1 none :: TT
abbrev b_T_isDeclared : ByteArray := prog_3_method_2_code
def y_T_isDeclared : MethodName := ⟨R_T, "isDeclared", "()Z"⟩
def w_T_isDeclared : List Cond := Cond.code y_T_isDeclared b_T_isDeclared 1 (some .boolean) :: TT
abbrev b_T_isUserOf : ByteArray := prog_3_method_3_code
def y_T_isUserOf : MethodName := ⟨R_T, "isUserOf", "(I)Z"⟩
def w_T_isUserOf : List Cond := Cond.code y_T_isUserOf b_T_isUserOf 2 (some .boolean) :: TT
abbrev b_T_makeReady : ByteArray := prog_3_method_4_code
def y_T_makeReady : MethodName := ⟨R_T, "makeReady", "(I)V"⟩
def w_T_makeReady : List Cond := Cond.code y_T_makeReady b_T_makeReady 2 none :: TT
abbrev b_T_goesBefore : ByteArray := prog_3_method_5_code
def y_T_goesBefore : MethodName := ⟨R_T, "goesBefore", "(LCeilingDispatch$Task;)Z"⟩
def w_T_goesBefore : List Cond := Cond.code y_T_goesBefore b_T_goesBefore 2 (some .boolean) :: TT
abbrev b_T_demandIn : ByteArray := prog_3_method_6_code
def y_T_demandIn : MethodName := ⟨R_T, "demandIn", "(I)I"⟩
def w_T_demandIn : List Cond := Cond.code y_T_demandIn b_T_demandIn 2 (some .int) :: TT
abbrev b_H_init : ByteArray := prog_4_method_1_code
def y_H_init : MethodName := ⟨R_H, "<init>", "()V"⟩
def w_H_init : List Cond := Cond.code y_H_init b_H_init 1 none :: TT
abbrev b_N_init : ByteArray := prog_2_method_1_code
def y_N_init : MethodName := ⟨R_N, "<init>", "()V"⟩
def w_N_init : List Cond := Cond.code y_N_init b_N_init 1 none :: TT
abbrev b_N_write : ByteArray := prog_2_method_2_code
def y_N_write : MethodName := ⟨R_N, "write", "(IIII)V"⟩
def w_N_write : List Cond := Cond.code y_N_write b_N_write 5 none :: TT
abbrev b_N_fromLatest : ByteArray := prog_2_method_3_code
def y_N_fromLatest : MethodName := ⟨R_N, "fromLatest", "(I)I"⟩
def w_N_fromLatest : List Cond := Cond.code y_N_fromLatest b_N_fromLatest 2 (some .int) :: TT
abbrev b_M_init : ByteArray := prog_6_method_1_code
def y_M_init : MethodName := ⟨R_M, "<init>", "()V"⟩
def w_M_init : List Cond := Cond.code y_M_init b_M_init 2 none :: TT
abbrev b_M_thrown : ByteArray := prog_6_method_2_code
def y_M_thrown : MethodName := ⟨R_M, "thrown", "()I"⟩
def w_M_thrown : List Cond := Cond.code y_M_thrown b_M_thrown 1 (some .int) :: TT
abbrev b_M_refuses : ByteArray := prog_6_method_3_code
def y_M_refuses : MethodName := ⟨R_M, "refuses", "(ZZ)Z"⟩
def w_M_refuses : List Cond := Cond.code y_M_refuses b_M_refuses 3 (some .boolean) :: TT
abbrev b_M_isTask : ByteArray := prog_6_method_4_code
def y_M_isTask : MethodName := ⟨R_M, "isTask", "(I)Z"⟩
def w_M_isTask : List Cond := Cond.code y_M_isTask b_M_isTask 1 (some .boolean) :: TT
abbrev b_M_isThing : ByteArray := prog_6_method_5_code
def y_M_isThing : MethodName := ⟨R_M, "isThing", "(I)Z"⟩
def w_M_isThing : List Cond := Cond.code y_M_isThing b_M_isThing 1 (some .boolean) :: TT
abbrev b_M_isDeclared : ByteArray := prog_6_method_6_code
def y_M_isDeclared : MethodName := ⟨R_M, "isDeclared", "(I)Z"⟩
def w_M_isDeclared : List Cond := Cond.code y_M_isDeclared b_M_isDeclared 2 (some .boolean) :: TT
abbrev b_M_isReady : ByteArray := prog_6_method_7_code
def y_M_isReady : MethodName := ⟨R_M, "isReady", "(I)Z"⟩
def w_M_isReady : List Cond := Cond.code y_M_isReady b_M_isReady 2 (some .boolean) :: TT
abbrev b_M_declare : ByteArray := prog_6_method_8_code
def y_M_declare : MethodName := ⟨R_M, "declare", "(IIII)V"⟩
def w_M_declare : List Cond := Cond.code y_M_declare b_M_declare 6 none :: TT
abbrev b_M_mayUse : ByteArray := prog_6_method_9_code
def y_M_mayUse : MethodName := ⟨R_M, "mayUse", "(III)V"⟩
def w_M_mayUse : List Cond := Cond.code y_M_mayUse b_M_mayUse 4 none :: TT
abbrev b_M_seal : ByteArray := prog_6_method_10_code
def y_M_seal : MethodName := ⟨R_M, "seal", "()I"⟩
def w_M_seal : List Cond := Cond.code y_M_seal b_M_seal 3 (some .int) :: TT
abbrev b_M_isFirst : ByteArray := prog_6_method_11_code
def y_M_isFirst : MethodName := ⟨R_M, "isFirst", "(II)Z"⟩
def w_M_isFirst : List Cond := Cond.code y_M_isFirst b_M_isFirst 3 (some .boolean) :: TT
abbrev b_M_runner : ByteArray := prog_6_method_12_code
def y_M_runner : MethodName := ⟨R_M, "runner", "()I"⟩
def w_M_runner : List Cond := Cond.code y_M_runner b_M_runner 3 (some .int) :: TT
abbrev b_M_add : ByteArray := prog_6_method_13_code
def y_M_add : MethodName := ⟨R_M, "add", "(III)V"⟩
def w_M_add : List Cond := Cond.code y_M_add b_M_add 4 none :: TT
abbrev b_M_tell : ByteArray := prog_6_method_14_code
def y_M_tell : MethodName := ⟨R_M, "tell", "(IIII)V"⟩
def w_M_tell : List Cond := Cond.code y_M_tell b_M_tell 6 none :: TT
abbrev b_M_release : ByteArray := prog_6_method_15_code
def y_M_release : MethodName := ⟨R_M, "release", "(I)I"⟩
def w_M_release : List Cond := Cond.code y_M_release b_M_release 3 (some .int) :: TT
abbrev b_M_top : ByteArray := prog_6_method_16_code
def y_M_top : MethodName := ⟨R_M, "top", "(I)I"⟩
def w_M_top : List Cond := Cond.code y_M_top b_M_top 4 (some .int) :: TT
abbrev b_M_take : ByteArray := prog_6_method_17_code
def y_M_take : MethodName := ⟨R_M, "take", "(I)I"⟩
def w_M_take : List Cond := Cond.code y_M_take b_M_take 6 (some .int) :: TT
abbrev b_M_latest : ByteArray := prog_6_method_18_code
def y_M_latest : MethodName := ⟨R_M, "latest", "(I)I"⟩
def w_M_latest : List Cond := Cond.code y_M_latest b_M_latest 4 (some .int) :: TT
abbrev b_M_give : ByteArray := prog_6_method_19_code
def y_M_give : MethodName := ⟨R_M, "give", "(I)I"⟩
def w_M_give : List Cond := Cond.code y_M_give b_M_give 3 (some .int) :: TT
abbrev b_M_finish : ByteArray := prog_6_method_20_code
def y_M_finish : MethodName := ⟨R_M, "finish", "()I"⟩
def w_M_finish : List Cond := Cond.code y_M_finish b_M_finish 2 (some .int) :: TT
abbrev b_M_pass : ByteArray := prog_6_method_21_code
def y_M_pass : MethodName := ⟨R_M, "pass", "(I)I"⟩
def w_M_pass : List Cond := Cond.code y_M_pass b_M_pass 4 (some .int) :: TT
abbrev b_M_running : ByteArray := prog_6_method_22_code
def y_M_running : MethodName := ⟨R_M, "running", "()I"⟩
def w_M_running : List Cond := Cond.code y_M_running b_M_running 1 (some .int) :: TT
abbrev b_M_priority : ByteArray := prog_6_method_23_code
def y_M_priority : MethodName := ⟨R_M, "priority", "(I)I"⟩
def w_M_priority : List Cond := Cond.code y_M_priority b_M_priority 2 (some .int) :: TT
abbrev b_M_place : ByteArray := prog_6_method_24_code
def y_M_place : MethodName := ⟨R_M, "place", "(I)I"⟩
def w_M_place : List Cond := Cond.code y_M_place b_M_place 4 (some .int) :: TT
abbrev b_M_ceiling : ByteArray := prog_6_method_25_code
def y_M_ceiling : MethodName := ⟨R_M, "ceiling", "(I)I"⟩
def w_M_ceiling : List Cond := Cond.code y_M_ceiling b_M_ceiling 2 (some .int) :: TT
abbrev b_M_holder : ByteArray := prog_6_method_26_code
def y_M_holder : MethodName := ⟨R_M, "holder", "(I)I"⟩
def w_M_holder : List Cond := Cond.code y_M_holder b_M_holder 2 (some .int) :: TT
abbrev b_M_spent : ByteArray := prog_6_method_27_code
def y_M_spent : MethodName := ⟨R_M, "spent", "(II)I"⟩
def w_M_spent : List Cond := Cond.code y_M_spent b_M_spent 3 (some .int) :: TT
abbrev b_M_longest : ByteArray := prog_6_method_28_code
def y_M_longest : MethodName := ⟨R_M, "longest", "(I)I"⟩
def w_M_longest : List Cond := Cond.code y_M_longest b_M_longest 5 (some .int) :: TT
abbrev b_M_blocking : ByteArray := prog_6_method_29_code
def y_M_blocking : MethodName := ⟨R_M, "blocking", "(I)I"⟩
def w_M_blocking : List Cond := Cond.code y_M_blocking b_M_blocking 2 (some .int) :: TT
abbrev b_M_load : ByteArray := prog_6_method_30_code
def y_M_load : MethodName := ⟨R_M, "load", "(II)I"⟩
def w_M_load : List Cond := Cond.code y_M_load b_M_load 6 (some .int) :: TT
abbrev b_M_response : ByteArray := prog_6_method_31_code
def y_M_response : MethodName := ⟨R_M, "response", "(I)I"⟩
def w_M_response : List Cond := Cond.code y_M_response b_M_response 3 (some .int) :: TT
abbrev b_M_notes : ByteArray := prog_6_method_32_code
def y_M_notes : MethodName := ⟨R_M, "notes", "()I"⟩
def w_M_notes : List Cond := Cond.code y_M_notes b_M_notes 1 (some .int) :: TT
abbrev b_M_note : ByteArray := prog_6_method_33_code
def y_M_note : MethodName := ⟨R_M, "note", "(I)I"⟩
def w_M_note : List Cond := Cond.code y_M_note b_M_note 2 (some .int) :: TT
abbrev b_L_declare : ByteArray := method_3_code
def y_L_declare : MethodName := ⟨R_L, "declare", "(LCeilingDispatch;IIII)I"⟩
def w_L_declare : List Cond := Cond.codeWith y_L_declare b_L_declare 6 (some .int) [(0, 9, 12, 13), (0, 9, 16, 15)] :: TT
abbrev b_L_mayUse : ByteArray := method_4_code
def y_L_mayUse : MethodName := ⟨R_L, "mayUse", "(LCeilingDispatch;III)I"⟩
def w_L_mayUse : List Cond := Cond.codeWith y_L_mayUse b_L_mayUse 5 (some .int) [(0, 7, 10, 13), (0, 7, 14, 15)] :: TT
abbrev b_L_seal : ByteArray := method_5_code
def y_L_seal : MethodName := ⟨R_L, "seal", "(LCeilingDispatch;[J)I"⟩
def w_L_seal : List Cond := Cond.codeWith y_L_seal b_L_seal 3 (some .int) [(0, 8, 11, 13)] :: TT
abbrev b_L_release : ByteArray := method_6_code
def y_L_release : MethodName := ⟨R_L, "release", "(LCeilingDispatch;I[J)I"⟩
def w_L_release : List Cond := Cond.codeWith y_L_release b_L_release 4 (some .int) [(0, 9, 12, 13), (0, 9, 15, 15)] :: TT
abbrev b_L_take : ByteArray := method_7_code
def y_L_take : MethodName := ⟨R_L, "take", "(LCeilingDispatch;I[J)I"⟩
def w_L_take : List Cond := Cond.codeWith y_L_take b_L_take 4 (some .int) [(0, 9, 12, 13), (0, 9, 15, 15)] :: TT
abbrev b_L_give : ByteArray := method_8_code
def y_L_give : MethodName := ⟨R_L, "give", "(LCeilingDispatch;I[J)I"⟩
def w_L_give : List Cond := Cond.codeWith y_L_give b_L_give 4 (some .int) [(0, 9, 12, 13), (0, 9, 15, 15)] :: TT
abbrev b_L_finish : ByteArray := method_9_code
def y_L_finish : MethodName := ⟨R_L, "finish", "(LCeilingDispatch;[J)I"⟩
def w_L_finish : List Cond := Cond.codeWith y_L_finish b_L_finish 3 (some .int) [(0, 8, 11, 13)] :: TT
abbrev b_L_pass : ByteArray := method_10_code
def y_L_pass : MethodName := ⟨R_L, "pass", "(LCeilingDispatch;I[J)I"⟩
def w_L_pass : List Cond := Cond.codeWith y_L_pass b_L_pass 4 (some .int) [(0, 9, 12, 15)] :: TT
abbrev b_L_law : ByteArray := code
def y_L_law : MethodName := ⟨R_L, "law", "([I)Z"⟩
abbrev b_J_floorMod : ByteArray := prog_10_method_50_code
def y_J_floorMod : MethodName := ⟨R_J, "floorMod", "(II)I"⟩
def w_J_floorMod : List Cond := Cond.code y_J_floorMod b_J_floorMod 3 (some .int) :: TT
abbrev y_J_max : MethodName := Lib.Math.max.name
def xS9 : List (Nat × String) := [(50, "sealed, or the task is declared"), (61, "no such task, base, cost or period"), (73, "sealed"), (77, "the task is not declared, or no such thing or length"), (97, "not sealed, or the task is ready"), (99, "the task is not declared"), (112, "not sealed, no task runs, or the thing is held"), (117, "no such thing, or the task that runs may not use it"), (140, "no task runs"), (142, "not the thing that the task that runs took last"), (144, "no task runs, or it holds something"), (152, "the clock can not go on by that")]
def xn9 : List String := ["java/lang/RuntimeException", "java/lang/Exception"]
theorem xgd_52_48 : ∀ w ∈ Cond.classLink R_C 48 "java/lang/IllegalStateException" :: Cond.initialized "java/lang/IllegalStateException" :: vx_atS R_C 52 "java/lang/IllegalStateException" xn9, vx_ot w = true := by
  exact List.all_eq_true.mp (by decide +kernel)
theorem xgd_63_59 : ∀ w ∈ Cond.classLink R_C 59 "java/lang/IllegalArgumentException" :: Cond.initialized "java/lang/IllegalArgumentException" :: vx_atS R_C 63 "java/lang/IllegalArgumentException" xn9, vx_ot w = true := by
  exact List.all_eq_true.mp (by decide +kernel)
theorem xat_52 : ∀ w ∈ vx_atS R_C 52 "java/lang/IllegalStateException" xn9, w ∈ TT := by
  sorry
theorem xat_63 : ∀ w ∈ vx_atS R_C 63 "java/lang/IllegalArgumentException" xn9, w ∈ TT := by
  sorry
-- words
theorem k_0 : Cond.selects R_C y_C_isDeclared y_C_isDeclared ∈ TT := tt_in 0 (by decide +kernel) (by decide +kernel)
theorem k_1 : Cond.selects R_C y_C_isReady y_C_isReady ∈ TT := tt_in 1 (by decide +kernel) (by decide +kernel)
theorem k_2 : Cond.selects R_C y_C_longestBlockingAt y_C_longestBlockingAt ∈ TT := tt_in 2 (by decide +kernel) (by decide +kernel)
theorem k_3 : Cond.selects R_C y_C_longestUseOfCeiling y_C_longestUseOfCeiling ∈ TT := tt_in 3 (by decide +kernel) (by decide +kernel)
theorem k_4 : Cond.selects R_C y_C_demandOfOthers y_C_demandOfOthers ∈ TT := tt_in 4 (by decide +kernel) (by decide +kernel)
theorem k_6 : Cond.selects R_C y_C_greatestBaseOfUsers y_C_greatestBaseOfUsers ∈ TT := tt_in 6 (by decide +kernel) (by decide +kernel)
theorem k_7 : Cond.selects R_C y_C_countDeclared y_C_countDeclared ∈ TT := tt_in 7 (by decide +kernel) (by decide +kernel)
theorem k_8 : Cond.selects R_C y_C_happened y_C_happened ∈ TT := tt_in 8 (by decide +kernel) (by decide +kernel)
theorem k_9 : Cond.selects R_C y_C_mostUrgent y_C_mostUrgent ∈ TT := tt_in 9 (by decide +kernel) (by decide +kernel)
theorem k_10 : Cond.selects R_C y_C_isHeld y_C_isHeld ∈ TT := tt_in 10 (by decide +kernel) (by decide +kernel)
theorem k_11 : Cond.selects R_C y_C_delayMoreUrgentThan y_C_delayMoreUrgentThan ∈ TT := tt_in 11 (by decide +kernel) (by decide +kernel)
theorem k_12 : Cond.selects R_M y_M_isDeclared y_M_isDeclared ∈ TT := tt_in 12 (by decide +kernel) (by decide +kernel)
theorem k_13 : Cond.selects R_M y_M_refuses y_M_refuses ∈ TT := tt_in 13 (by decide +kernel) (by decide +kernel)
theorem k_14 : Cond.selects R_M y_M_isReady y_M_isReady ∈ TT := tt_in 14 (by decide +kernel) (by decide +kernel)
theorem k_15 : Cond.selects R_M y_M_runner y_M_runner ∈ TT := tt_in 15 (by decide +kernel) (by decide +kernel)
theorem k_16 : Cond.selects R_M y_M_isFirst y_M_isFirst ∈ TT := tt_in 16 (by decide +kernel) (by decide +kernel)
theorem k_17 : Cond.selects R_M y_M_tell y_M_tell ∈ TT := tt_in 17 (by decide +kernel) (by decide +kernel)
theorem k_18 : Cond.selects R_M y_M_add y_M_add ∈ TT := tt_in 18 (by decide +kernel) (by decide +kernel)
theorem k_19 : Cond.selects R_M y_M_top y_M_top ∈ TT := tt_in 19 (by decide +kernel) (by decide +kernel)
theorem k_20 : Cond.selects R_M y_M_latest y_M_latest ∈ TT := tt_in 20 (by decide +kernel) (by decide +kernel)
theorem k_21 : Cond.selects R_M y_M_longest y_M_longest ∈ TT := tt_in 21 (by decide +kernel) (by decide +kernel)
theorem k_22 : Cond.selects R_M y_M_load y_M_load ∈ TT := tt_in 22 (by decide +kernel) (by decide +kernel)
theorem k_23 : Cond.initialized R_L ∈ TT := tt_in 23 (by decide +kernel) (by decide +kernel)
theorem k_24 : Cond.initialized R_C ∈ TT := tt_in 24 (by decide +kernel) (by decide +kernel)
theorem k_25 : Cond.initialized R_N ∈ TT := tt_in 25 (by decide +kernel) (by decide +kernel)
theorem k_26 : Cond.initialized R_T ∈ TT := tt_in 26 (by decide +kernel) (by decide +kernel)
theorem k_27 : Cond.initialized R_H ∈ TT := tt_in 27 (by decide +kernel) (by decide +kernel)
theorem k_28 : Cond.initialized R_M ∈ TT := tt_in 28 (by decide +kernel) (by decide +kernel)
theorem k_32 : Cond.initialized "java/lang/IllegalStateException" ∈ TT := tt_in 32 (by decide +kernel) (by decide +kernel)
theorem k_33 : Cond.initialized "java/lang/IllegalArgumentException" ∈ TT := tt_in 33 (by decide +kernel) (by decide +kernel)
theorem k_34 : Cond.initialized R_J ∈ TT := tt_in 34 (by decide +kernel) (by decide +kernel)
theorem k_35 : Cond.classLink R_L 8 R_C ∈ TT := tt_in 35 (by decide +kernel) (by decide +kernel)
theorem k_36 : Cond.instantiable R_C 7 ∈ TT := tt_in 36 (by decide +kernel) (by decide +kernel)
theorem k_37 : Cond.methodLink R_L 41 y_C_init ∈ TT := tt_in 37 (by decide +kernel) (by decide +kernel)
theorem k_38 : Cond.instanceMethod y_C_init ∈ TT := tt_in 38 (by decide +kernel) (by decide +kernel)
theorem k_39 : Cond.code y_C_init b_C_init 2 none ∈ TT := tt_in 39 (by decide +kernel) (by decide +kernel)
theorem k_40 : Cond.methodLink R_C 1 objectInit ∈ TT := tt_in 40 (by decide +kernel) (by decide +kernel)
theorem k_41 : Cond.instanceMethod objectInit ∈ TT := tt_in 41 (by decide +kernel) (by decide +kernel)
theorem k_42 : Cond.code Lib.objectInit ⟨#[0xb1]⟩ 1 none ∈ TT := tt_in 42 (by decide +kernel) (by decide +kernel)
theorem k_43 : Cond.classLink R_C 9 R_T ∈ TT := tt_in 43 (by decide +kernel) (by decide +kernel)
theorem k_45 : Cond.classLink R_C 15 R_H ∈ TT := tt_in 45 (by decide +kernel) (by decide +kernel)
theorem k_47 : Cond.classLink R_C 21 R_N ∈ TT := tt_in 47 (by decide +kernel) (by decide +kernel)
theorem k_48 : Cond.instantiable R_N 2 ∈ TT := tt_in 48 (by decide +kernel) (by decide +kernel)
theorem k_50 : Cond.instanceMethod y_N_init ∈ TT := tt_in 50 (by decide +kernel) (by decide +kernel)
theorem k_51 : Cond.code y_N_init b_N_init 1 none ∈ TT := tt_in 51 (by decide +kernel) (by decide +kernel)
theorem k_52 : Cond.methodLink R_N 3 objectInit ∈ TT := tt_in 52 (by decide +kernel) (by decide +kernel)
theorem k_53 : Cond.fieldLink R_N 9 "CeilingDispatch$NoteBook" "kept" "[I" ∈ TT := tt_in 53 (by decide +kernel) (by decide +kernel)
theorem k_54 : Cond.fieldLink R_N 15 "CeilingDispatch$NoteBook" "made" "I" ∈ TT := tt_in 54 (by decide +kernel) (by decide +kernel)
theorem k_61 : Cond.arrayClass .int ∈ TT := tt_in 61 (by decide +kernel) (by decide +kernel)
theorem k_62 : Cond.instantiable R_T 10 ∈ TT := tt_in 62 (by decide +kernel) (by decide +kernel)
theorem k_64 : Cond.instanceMethod y_T_init ∈ TT := tt_in 64 (by decide +kernel) (by decide +kernel)
theorem k_65 : Cond.code y_T_init b_T_init 1 none ∈ TT := tt_in 65 (by decide +kernel) (by decide +kernel)
theorem k_66 : Cond.methodLink R_T 3 objectInit ∈ TT := tt_in 66 (by decide +kernel) (by decide +kernel)
theorem k_67 : Cond.fieldLink R_T 9 "CeilingDispatch$Task" "base" "I" ∈ TT := tt_in 67 (by decide +kernel) (by decide +kernel)
theorem k_69 : Cond.fieldLink R_T 15 "CeilingDispatch$Task" "cost" "I" ∈ TT := tt_in 69 (by decide +kernel) (by decide +kernel)
theorem k_71 : Cond.fieldLink R_T 18 "CeilingDispatch$Task" "period" "I" ∈ TT := tt_in 71 (by decide +kernel) (by decide +kernel)
theorem k_73 : Cond.fieldLink R_T 21 "CeilingDispatch$Task" "lengths" "[I" ∈ TT := tt_in 73 (by decide +kernel) (by decide +kernel)
theorem k_75 : Cond.fieldLink R_T 25 "CeilingDispatch$Task" "ready" "Z" ∈ TT := tt_in 75 (by decide +kernel) (by decide +kernel)
theorem k_77 : Cond.fieldLink R_T 29 "CeilingDispatch$Task" "priority" "I" ∈ TT := tt_in 77 (by decide +kernel) (by decide +kernel)
theorem k_79 : Cond.fieldLink R_T 32 "CeilingDispatch$Task" "turn" "I" ∈ TT := tt_in 79 (by decide +kernel) (by decide +kernel)
theorem k_80 : Cond.fieldLink R_T 35 "CeilingDispatch$Task" "lastTaken" "I" ∈ TT := tt_in 80 (by decide +kernel) (by decide +kernel)
theorem k_82 : Cond.fieldLink R_T 38 "CeilingDispatch$Task" "work" "I" ∈ TT := tt_in 82 (by decide +kernel) (by decide +kernel)
theorem k_84 : Cond.fieldLink R_T 41 "CeilingDispatch$Task" "delay" "I" ∈ TT := tt_in 84 (by decide +kernel) (by decide +kernel)
theorem k_107 : Cond.instantiable R_H 4 ∈ TT := tt_in 107 (by decide +kernel) (by decide +kernel)
theorem k_109 : Cond.instanceMethod y_H_init ∈ TT := tt_in 109 (by decide +kernel) (by decide +kernel)
theorem k_110 : Cond.code y_H_init b_H_init 1 none ∈ TT := tt_in 110 (by decide +kernel) (by decide +kernel)
theorem k_111 : Cond.methodLink R_H 3 objectInit ∈ TT := tt_in 111 (by decide +kernel) (by decide +kernel)
theorem k_112 : Cond.fieldLink R_H 9 "CeilingDispatch$Thing" "ceiling" "I" ∈ TT := tt_in 112 (by decide +kernel) (by decide +kernel)
theorem k_114 : Cond.fieldLink R_H 15 "CeilingDispatch$Thing" "holder" "I" ∈ TT := tt_in 114 (by decide +kernel) (by decide +kernel)
theorem k_116 : Cond.fieldLink R_H 18 "CeilingDispatch$Thing" "takenBefore" "I" ∈ TT := tt_in 116 (by decide +kernel) (by decide +kernel)
theorem k_118 : Cond.fieldLink R_H 21 "CeilingDispatch$Thing" "priorityBefore" "I" ∈ TT := tt_in 118 (by decide +kernel) (by decide +kernel)
theorem k_129 : Cond.fieldLink R_C 11 "CeilingDispatch" "tasks" "[LCeilingDispatch$Task;" ∈ TT := tt_in 129 (by decide +kernel) (by decide +kernel)
theorem k_130 : Cond.fieldLink R_C 17 "CeilingDispatch" "things" "[LCeilingDispatch$Thing;" ∈ TT := tt_in 130 (by decide +kernel) (by decide +kernel)
theorem k_131 : Cond.fieldLink R_C 24 "CeilingDispatch" "book" "LCeilingDispatch$NoteBook;" ∈ TT := tt_in 131 (by decide +kernel) (by decide +kernel)
theorem k_132 : Cond.fieldLink R_C 28 "CeilingDispatch" "sealed" "Z" ∈ TT := tt_in 132 (by decide +kernel) (by decide +kernel)
theorem k_133 : Cond.fieldLink R_C 32 "CeilingDispatch" "clock" "I" ∈ TT := tt_in 133 (by decide +kernel) (by decide +kernel)
theorem k_134 : Cond.fieldLink R_C 36 "CeilingDispatch" "releases" "I" ∈ TT := tt_in 134 (by decide +kernel) (by decide +kernel)
theorem k_135 : Cond.fieldLink R_C 39 "CeilingDispatch" "runner" "I" ∈ TT := tt_in 135 (by decide +kernel) (by decide +kernel)
theorem k_151 : Cond.methodLink R_L 78 y_C_running ∈ TT := tt_in 151 (by decide +kernel) (by decide +kernel)
theorem k_152 : Cond.instanceMethod y_C_running ∈ TT := tt_in 152 (by decide +kernel) (by decide +kernel)
theorem k_153 : Cond.selects R_C y_C_running y_C_running ∈ TT := tt_in 153 (by decide +kernel) (by decide +kernel)
theorem k_154 : Cond.code y_C_running b_C_running 1 (some .int) ∈ TT := tt_in 154 (by decide +kernel) (by decide +kernel)
theorem k_155 : Cond.methodLink R_L 82 y_C_priority ∈ TT := tt_in 155 (by decide +kernel) (by decide +kernel)
theorem k_156 : Cond.instanceMethod y_C_priority ∈ TT := tt_in 156 (by decide +kernel) (by decide +kernel)
theorem k_157 : Cond.selects R_C y_C_priority y_C_priority ∈ TT := tt_in 157 (by decide +kernel) (by decide +kernel)
theorem k_158 : Cond.code y_C_priority b_C_priority 2 (some .int) ∈ TT := tt_in 158 (by decide +kernel) (by decide +kernel)
theorem k_159 : Cond.methodLink R_C 44 y_C_isDeclared ∈ TT := tt_in 159 (by decide +kernel) (by decide +kernel)
theorem k_161 : Cond.instanceMethod y_C_isDeclared ∈ TT := tt_in 161 (by decide +kernel) (by decide +kernel)
theorem k_162 : Cond.code y_C_isDeclared b_C_isDeclared 2 (some .boolean) ∈ TT := tt_in 162 (by decide +kernel) (by decide +kernel)
theorem k_163 : Cond.methodLink R_C 55 y_C_isIn ∈ TT := tt_in 163 (by decide +kernel) (by decide +kernel)
theorem k_164 : Cond.static y_C_isIn ∈ TT := tt_in 164 (by decide +kernel) (by decide +kernel)
theorem k_165 : Cond.code y_C_isIn b_C_isIn 3 (some .boolean) ∈ TT := tt_in 165 (by decide +kernel) (by decide +kernel)
theorem k_166 : Cond.methodLink R_C 177 y_T_isDeclared ∈ TT := tt_in 166 (by decide +kernel) (by decide +kernel)
theorem k_167 : Cond.instanceMethod y_T_isDeclared ∈ TT := tt_in 167 (by decide +kernel) (by decide +kernel)
theorem k_168 : Cond.selects R_T y_T_isDeclared y_T_isDeclared ∈ TT := tt_in 168 (by decide +kernel) (by decide +kernel)
theorem k_169 : Cond.code y_T_isDeclared b_T_isDeclared 1 (some .boolean) ∈ TT := tt_in 169 (by decide +kernel) (by decide +kernel)
theorem k_170 : Cond.methodLink R_L 86 y_C_place ∈ TT := tt_in 170 (by decide +kernel) (by decide +kernel)
theorem k_171 : Cond.instanceMethod y_C_place ∈ TT := tt_in 171 (by decide +kernel) (by decide +kernel)
theorem k_172 : Cond.selects R_C y_C_place y_C_place ∈ TT := tt_in 172 (by decide +kernel) (by decide +kernel)
theorem k_173 : Cond.code y_C_place b_C_place 4 (some .int) ∈ TT := tt_in 173 (by decide +kernel) (by decide +kernel)
theorem k_174 : Cond.methodLink R_C 94 y_C_isReady ∈ TT := tt_in 174 (by decide +kernel) (by decide +kernel)
theorem k_176 : Cond.instanceMethod y_C_isReady ∈ TT := tt_in 176 (by decide +kernel) (by decide +kernel)
theorem k_177 : Cond.code y_C_isReady b_C_isReady 2 (some .boolean) ∈ TT := tt_in 177 (by decide +kernel) (by decide +kernel)
theorem k_178 : Cond.methodLink R_C 158 y_T_goesBefore ∈ TT := tt_in 178 (by decide +kernel) (by decide +kernel)
theorem k_179 : Cond.instanceMethod y_T_goesBefore ∈ TT := tt_in 179 (by decide +kernel) (by decide +kernel)
theorem k_180 : Cond.selects R_T y_T_goesBefore y_T_goesBefore ∈ TT := tt_in 180 (by decide +kernel) (by decide +kernel)
theorem k_181 : Cond.code y_T_goesBefore b_T_goesBefore 2 (some .boolean) ∈ TT := tt_in 181 (by decide +kernel) (by decide +kernel)
theorem k_182 : Cond.methodLink R_L 90 y_C_ceiling ∈ TT := tt_in 182 (by decide +kernel) (by decide +kernel)
theorem k_183 : Cond.instanceMethod y_C_ceiling ∈ TT := tt_in 183 (by decide +kernel) (by decide +kernel)
theorem k_184 : Cond.selects R_C y_C_ceiling y_C_ceiling ∈ TT := tt_in 184 (by decide +kernel) (by decide +kernel)
theorem k_185 : Cond.code y_C_ceiling b_C_ceiling 2 (some .int) ∈ TT := tt_in 185 (by decide +kernel) (by decide +kernel)
theorem k_186 : Cond.methodLink R_C 74 y_C_isThing ∈ TT := tt_in 186 (by decide +kernel) (by decide +kernel)
theorem k_187 : Cond.static y_C_isThing ∈ TT := tt_in 187 (by decide +kernel) (by decide +kernel)
theorem k_188 : Cond.code y_C_isThing b_C_isThing 1 (some .boolean) ∈ TT := tt_in 188 (by decide +kernel) (by decide +kernel)
theorem k_189 : Cond.methodLink R_L 94 y_C_holder ∈ TT := tt_in 189 (by decide +kernel) (by decide +kernel)
theorem k_190 : Cond.instanceMethod y_C_holder ∈ TT := tt_in 190 (by decide +kernel) (by decide +kernel)
theorem k_191 : Cond.selects R_C y_C_holder y_C_holder ∈ TT := tt_in 191 (by decide +kernel) (by decide +kernel)
theorem k_192 : Cond.code y_C_holder b_C_holder 2 (some .int) ∈ TT := tt_in 192 (by decide +kernel) (by decide +kernel)
theorem k_193 : Cond.methodLink R_L 98 y_C_spent ∈ TT := tt_in 193 (by decide +kernel) (by decide +kernel)
theorem k_194 : Cond.instanceMethod y_C_spent ∈ TT := tt_in 194 (by decide +kernel) (by decide +kernel)
theorem k_195 : Cond.selects R_C y_C_spent y_C_spent ∈ TT := tt_in 195 (by decide +kernel) (by decide +kernel)
theorem k_196 : Cond.code y_C_spent b_C_spent 3 (some .int) ∈ TT := tt_in 196 (by decide +kernel) (by decide +kernel)
theorem k_197 : Cond.methodLink R_L 103 y_C_blocking ∈ TT := tt_in 197 (by decide +kernel) (by decide +kernel)
theorem k_198 : Cond.instanceMethod y_C_blocking ∈ TT := tt_in 198 (by decide +kernel) (by decide +kernel)
theorem k_199 : Cond.selects R_C y_C_blocking y_C_blocking ∈ TT := tt_in 199 (by decide +kernel) (by decide +kernel)
theorem k_200 : Cond.code y_C_blocking b_C_blocking 2 (some .int) ∈ TT := tt_in 200 (by decide +kernel) (by decide +kernel)
theorem k_201 : Cond.methodLink R_C 165 y_C_longestBlockingAt ∈ TT := tt_in 201 (by decide +kernel) (by decide +kernel)
theorem k_203 : Cond.instanceMethod y_C_longestBlockingAt ∈ TT := tt_in 203 (by decide +kernel) (by decide +kernel)
theorem k_204 : Cond.code y_C_longestBlockingAt b_C_longestBlockingAt 4 (some .int) ∈ TT := tt_in 204 (by decide +kernel) (by decide +kernel)
theorem k_205 : Cond.methodLink R_C 187 y_C_longestUseOfCeiling ∈ TT := tt_in 205 (by decide +kernel) (by decide +kernel)
theorem k_207 : Cond.instanceMethod y_C_longestUseOfCeiling ∈ TT := tt_in 207 (by decide +kernel) (by decide +kernel)
theorem k_208 : Cond.code y_C_longestUseOfCeiling b_C_longestUseOfCeiling 5 (some .int) ∈ TT := tt_in 208 (by decide +kernel) (by decide +kernel)
theorem k_209 : Cond.methodLink R_C 134 y_J_max ∈ TT := tt_in 209 (by decide +kernel) (by decide +kernel)
theorem k_210 : Cond.static y_J_max ∈ TT := tt_in 210 (by decide +kernel) (by decide +kernel)
theorem k_211 : Cond.code Lib.Math.max.name Lib.Math.max.code 2 (some .int) ∈ TT := tt_in 211 (by decide +kernel) (by decide +kernel)
theorem k_212 : Cond.methodLink R_L 107 y_C_response ∈ TT := tt_in 212 (by decide +kernel) (by decide +kernel)
theorem k_213 : Cond.instanceMethod y_C_response ∈ TT := tt_in 213 (by decide +kernel) (by decide +kernel)
theorem k_214 : Cond.selects R_C y_C_response y_C_response ∈ TT := tt_in 214 (by decide +kernel) (by decide +kernel)
theorem k_215 : Cond.code y_C_response b_C_response 4 (some .int) ∈ TT := tt_in 215 (by decide +kernel) (by decide +kernel)
theorem k_216 : Cond.methodLink R_C 168 y_C_demandOfOthers ∈ TT := tt_in 216 (by decide +kernel) (by decide +kernel)
theorem k_218 : Cond.instanceMethod y_C_demandOfOthers ∈ TT := tt_in 218 (by decide +kernel) (by decide +kernel)
theorem k_219 : Cond.code y_C_demandOfOthers b_C_demandOfOthers 5 (some .int) ∈ TT := tt_in 219 (by decide +kernel) (by decide +kernel)
theorem k_220 : Cond.methodLink R_C 191 y_T_demandIn ∈ TT := tt_in 220 (by decide +kernel) (by decide +kernel)
theorem k_221 : Cond.instanceMethod y_T_demandIn ∈ TT := tt_in 221 (by decide +kernel) (by decide +kernel)
theorem k_222 : Cond.selects R_T y_T_demandIn y_T_demandIn ∈ TT := tt_in 222 (by decide +kernel) (by decide +kernel)
theorem k_223 : Cond.code y_T_demandIn b_T_demandIn 2 (some .int) ∈ TT := tt_in 223 (by decide +kernel) (by decide +kernel)
theorem k_224 : Cond.methodLink R_T 44 y_T_isDeclared ∈ TT := tt_in 224 (by decide +kernel) (by decide +kernel)
theorem k_225 : Cond.methodLink R_L 111 y_C_notes ∈ TT := tt_in 225 (by decide +kernel) (by decide +kernel)
theorem k_226 : Cond.instanceMethod y_C_notes ∈ TT := tt_in 226 (by decide +kernel) (by decide +kernel)
theorem k_227 : Cond.selects R_C y_C_notes y_C_notes ∈ TT := tt_in 227 (by decide +kernel) (by decide +kernel)
theorem k_228 : Cond.code y_C_notes b_C_notes 1 (some .int) ∈ TT := tt_in 228 (by decide +kernel) (by decide +kernel)
theorem k_229 : Cond.methodLink R_L 115 y_C_note ∈ TT := tt_in 229 (by decide +kernel) (by decide +kernel)
theorem k_230 : Cond.instanceMethod y_C_note ∈ TT := tt_in 230 (by decide +kernel) (by decide +kernel)
theorem k_231 : Cond.selects R_C y_C_note y_C_note ∈ TT := tt_in 231 (by decide +kernel) (by decide +kernel)
theorem k_232 : Cond.code y_C_note b_C_note 2 (some .int) ∈ TT := tt_in 232 (by decide +kernel) (by decide +kernel)
theorem k_233 : Cond.methodLink R_C 174 y_N_fromLatest ∈ TT := tt_in 233 (by decide +kernel) (by decide +kernel)
theorem k_234 : Cond.instanceMethod y_N_fromLatest ∈ TT := tt_in 234 (by decide +kernel) (by decide +kernel)
theorem k_235 : Cond.selects R_N y_N_fromLatest y_N_fromLatest ∈ TT := tt_in 235 (by decide +kernel) (by decide +kernel)
theorem k_236 : Cond.code y_N_fromLatest b_N_fromLatest 2 (some .int) ∈ TT := tt_in 236 (by decide +kernel) (by decide +kernel)
theorem k_237 : Cond.methodLink R_N 19 y_J_floorMod ∈ TT := tt_in 237 (by decide +kernel) (by decide +kernel)
theorem k_238 : Cond.static y_J_floorMod ∈ TT := tt_in 238 (by decide +kernel) (by decide +kernel)
theorem k_239 : Cond.code y_J_floorMod b_J_floorMod 3 (some .int) ∈ TT := tt_in 239 (by decide +kernel) (by decide +kernel)
theorem k_240 : Cond.methodLink R_L 45 y_L_declare ∈ TT := tt_in 240 (by decide +kernel) (by decide +kernel)
theorem k_241 : Cond.static y_L_declare ∈ TT := tt_in 241 (by decide +kernel) (by decide +kernel)
theorem k_242 : Cond.codeWith y_L_declare b_L_declare 6 (some .int) [(0, 9, 12, 13), (0, 9, 16, 15)] ∈ TT := tt_in 242 (by decide +kernel) (by decide +kernel)
theorem k_245 : Cond.methodLink R_L 7 y_C_declare ∈ TT := tt_in 245 (by decide +kernel) (by decide +kernel)
theorem k_246 : Cond.instanceMethod y_C_declare ∈ TT := tt_in 246 (by decide +kernel) (by decide +kernel)
theorem k_247 : Cond.selects R_C y_C_declare y_C_declare ∈ TT := tt_in 247 (by decide +kernel) (by decide +kernel)
theorem k_248 : Cond.code y_C_declare b_C_declare 6 none ∈ TT := tt_in 248 (by decide +kernel) (by decide +kernel)
theorem k_249 : Cond.classLink R_C 48 "java/lang/IllegalStateException" ∈ TT := tt_in 249 (by decide +kernel) (by decide +kernel)
theorem k_316 : Cond.classLink R_C 59 "java/lang/IllegalArgumentException" ∈ TT := tt_in 316 (by decide +kernel) (by decide +kernel)
theorem k_332 : Cond.methodLink R_L 54 y_L_mayUse ∈ TT := tt_in 332 (by decide +kernel) (by decide +kernel)
theorem k_333 : Cond.static y_L_mayUse ∈ TT := tt_in 333 (by decide +kernel) (by decide +kernel)
theorem k_334 : Cond.codeWith y_L_mayUse b_L_mayUse 5 (some .int) [(0, 7, 10, 13), (0, 7, 14, 15)] ∈ TT := tt_in 334 (by decide +kernel) (by decide +kernel)
theorem k_335 : Cond.methodLink R_L 17 y_C_mayUse ∈ TT := tt_in 335 (by decide +kernel) (by decide +kernel)
theorem k_336 : Cond.instanceMethod y_C_mayUse ∈ TT := tt_in 336 (by decide +kernel) (by decide +kernel)
theorem k_337 : Cond.selects R_C y_C_mayUse y_C_mayUse ∈ TT := tt_in 337 (by decide +kernel) (by decide +kernel)
theorem k_338 : Cond.code y_C_mayUse b_C_mayUse 4 none ∈ TT := tt_in 338 (by decide +kernel) (by decide +kernel)
theorem k_341 : Cond.methodLink R_L 58 y_L_seal ∈ TT := tt_in 341 (by decide +kernel) (by decide +kernel)
theorem k_342 : Cond.static y_L_seal ∈ TT := tt_in 342 (by decide +kernel) (by decide +kernel)
theorem k_343 : Cond.codeWith y_L_seal b_L_seal 3 (some .int) [(0, 8, 11, 13)] ∈ TT := tt_in 343 (by decide +kernel) (by decide +kernel)
theorem k_344 : Cond.methodLink R_L 21 y_C_seal ∈ TT := tt_in 344 (by decide +kernel) (by decide +kernel)
theorem k_345 : Cond.instanceMethod y_C_seal ∈ TT := tt_in 345 (by decide +kernel) (by decide +kernel)
theorem k_346 : Cond.selects R_C y_C_seal y_C_seal ∈ TT := tt_in 346 (by decide +kernel) (by decide +kernel)
theorem k_347 : Cond.code y_C_seal b_C_seal 2 (some .int) ∈ TT := tt_in 347 (by decide +kernel) (by decide +kernel)
theorem k_348 : Cond.methodLink R_C 83 y_C_greatestBaseOfUsers ∈ TT := tt_in 348 (by decide +kernel) (by decide +kernel)
theorem k_350 : Cond.instanceMethod y_C_greatestBaseOfUsers ∈ TT := tt_in 350 (by decide +kernel) (by decide +kernel)
theorem k_351 : Cond.code y_C_greatestBaseOfUsers b_C_greatestBaseOfUsers 4 (some .int) ∈ TT := tt_in 351 (by decide +kernel) (by decide +kernel)
theorem k_352 : Cond.methodLink R_C 114 y_T_isUserOf ∈ TT := tt_in 352 (by decide +kernel) (by decide +kernel)
theorem k_353 : Cond.instanceMethod y_T_isUserOf ∈ TT := tt_in 353 (by decide +kernel) (by decide +kernel)
theorem k_354 : Cond.selects R_T y_T_isUserOf y_T_isUserOf ∈ TT := tt_in 354 (by decide +kernel) (by decide +kernel)
theorem k_355 : Cond.code y_T_isUserOf b_T_isUserOf 2 (some .boolean) ∈ TT := tt_in 355 (by decide +kernel) (by decide +kernel)
theorem k_356 : Cond.methodLink R_C 90 y_C_countDeclared ∈ TT := tt_in 356 (by decide +kernel) (by decide +kernel)
theorem k_358 : Cond.instanceMethod y_C_countDeclared ∈ TT := tt_in 358 (by decide +kernel) (by decide +kernel)
theorem k_359 : Cond.code y_C_countDeclared b_C_countDeclared 3 (some .int) ∈ TT := tt_in 359 (by decide +kernel) (by decide +kernel)
theorem k_360 : Cond.methodLink R_L 62 y_L_release ∈ TT := tt_in 360 (by decide +kernel) (by decide +kernel)
theorem k_361 : Cond.static y_L_release ∈ TT := tt_in 361 (by decide +kernel) (by decide +kernel)
theorem k_362 : Cond.codeWith y_L_release b_L_release 4 (some .int) [(0, 9, 12, 13), (0, 9, 15, 15)] ∈ TT := tt_in 362 (by decide +kernel) (by decide +kernel)
theorem k_363 : Cond.methodLink R_L 25 y_C_release ∈ TT := tt_in 363 (by decide +kernel) (by decide +kernel)
theorem k_364 : Cond.instanceMethod y_C_release ∈ TT := tt_in 364 (by decide +kernel) (by decide +kernel)
theorem k_365 : Cond.selects R_C y_C_release y_C_release ∈ TT := tt_in 365 (by decide +kernel) (by decide +kernel)
theorem k_366 : Cond.code y_C_release b_C_release 2 (some .int) ∈ TT := tt_in 366 (by decide +kernel) (by decide +kernel)
theorem k_369 : Cond.methodLink R_C 101 y_T_makeReady ∈ TT := tt_in 369 (by decide +kernel) (by decide +kernel)
theorem k_370 : Cond.instanceMethod y_T_makeReady ∈ TT := tt_in 370 (by decide +kernel) (by decide +kernel)
theorem k_371 : Cond.selects R_T y_T_makeReady y_T_makeReady ∈ TT := tt_in 371 (by decide +kernel) (by decide +kernel)
theorem k_372 : Cond.code y_T_makeReady b_T_makeReady 2 none ∈ TT := tt_in 372 (by decide +kernel) (by decide +kernel)
theorem k_373 : Cond.methodLink R_C 105 y_C_happened ∈ TT := tt_in 373 (by decide +kernel) (by decide +kernel)
theorem k_375 : Cond.instanceMethod y_C_happened ∈ TT := tt_in 375 (by decide +kernel) (by decide +kernel)
theorem k_376 : Cond.code y_C_happened b_C_happened 5 none ∈ TT := tt_in 376 (by decide +kernel) (by decide +kernel)
theorem k_377 : Cond.methodLink R_C 180 y_N_write ∈ TT := tt_in 377 (by decide +kernel) (by decide +kernel)
theorem k_378 : Cond.instanceMethod y_N_write ∈ TT := tt_in 378 (by decide +kernel) (by decide +kernel)
theorem k_379 : Cond.selects R_N y_N_write y_N_write ∈ TT := tt_in 379 (by decide +kernel) (by decide +kernel)
theorem k_380 : Cond.code y_N_write b_N_write 5 none ∈ TT := tt_in 380 (by decide +kernel) (by decide +kernel)
theorem k_381 : Cond.constant R_N 25 65536 ∈ TT := tt_in 381 (by decide +kernel) (by decide +kernel)
theorem k_382 : Cond.methodLink R_C 184 y_C_mostUrgent ∈ TT := tt_in 382 (by decide +kernel) (by decide +kernel)
theorem k_384 : Cond.instanceMethod y_C_mostUrgent ∈ TT := tt_in 384 (by decide +kernel) (by decide +kernel)
theorem k_385 : Cond.code y_C_mostUrgent b_C_mostUrgent 3 (some .int) ∈ TT := tt_in 385 (by decide +kernel) (by decide +kernel)
theorem k_386 : Cond.methodLink R_L 66 y_L_take ∈ TT := tt_in 386 (by decide +kernel) (by decide +kernel)
theorem k_387 : Cond.static y_L_take ∈ TT := tt_in 387 (by decide +kernel) (by decide +kernel)
theorem k_388 : Cond.codeWith y_L_take b_L_take 4 (some .int) [(0, 9, 12, 13), (0, 9, 15, 15)] ∈ TT := tt_in 388 (by decide +kernel) (by decide +kernel)
theorem k_389 : Cond.methodLink R_L 29 y_C_take ∈ TT := tt_in 389 (by decide +kernel) (by decide +kernel)
theorem k_390 : Cond.instanceMethod y_C_take ∈ TT := tt_in 390 (by decide +kernel) (by decide +kernel)
theorem k_391 : Cond.selects R_C y_C_take y_C_take ∈ TT := tt_in 391 (by decide +kernel) (by decide +kernel)
theorem k_392 : Cond.code y_C_take b_C_take 4 (some .int) ∈ TT := tt_in 392 (by decide +kernel) (by decide +kernel)
theorem k_393 : Cond.methodLink R_C 109 y_C_isHeld ∈ TT := tt_in 393 (by decide +kernel) (by decide +kernel)
theorem k_395 : Cond.instanceMethod y_C_isHeld ∈ TT := tt_in 395 (by decide +kernel) (by decide +kernel)
theorem k_396 : Cond.code y_C_isHeld b_C_isHeld 2 (some .boolean) ∈ TT := tt_in 396 (by decide +kernel) (by decide +kernel)
theorem k_399 : Cond.methodLink R_L 69 y_L_give ∈ TT := tt_in 399 (by decide +kernel) (by decide +kernel)
theorem k_400 : Cond.static y_L_give ∈ TT := tt_in 400 (by decide +kernel) (by decide +kernel)
theorem k_401 : Cond.codeWith y_L_give b_L_give 4 (some .int) [(0, 9, 12, 13), (0, 9, 15, 15)] ∈ TT := tt_in 401 (by decide +kernel) (by decide +kernel)
theorem k_402 : Cond.methodLink R_L 32 y_C_give ∈ TT := tt_in 402 (by decide +kernel) (by decide +kernel)
theorem k_403 : Cond.instanceMethod y_C_give ∈ TT := tt_in 403 (by decide +kernel) (by decide +kernel)
theorem k_404 : Cond.selects R_C y_C_give y_C_give ∈ TT := tt_in 404 (by decide +kernel) (by decide +kernel)
theorem k_405 : Cond.code y_C_give b_C_give 4 (some .int) ∈ TT := tt_in 405 (by decide +kernel) (by decide +kernel)
theorem k_408 : Cond.methodLink R_L 72 y_L_finish ∈ TT := tt_in 408 (by decide +kernel) (by decide +kernel)
theorem k_409 : Cond.static y_L_finish ∈ TT := tt_in 409 (by decide +kernel) (by decide +kernel)
theorem k_410 : Cond.codeWith y_L_finish b_L_finish 3 (some .int) [(0, 8, 11, 13)] ∈ TT := tt_in 410 (by decide +kernel) (by decide +kernel)
theorem k_411 : Cond.methodLink R_L 35 y_C_finish ∈ TT := tt_in 411 (by decide +kernel) (by decide +kernel)
theorem k_412 : Cond.instanceMethod y_C_finish ∈ TT := tt_in 412 (by decide +kernel) (by decide +kernel)
theorem k_413 : Cond.selects R_C y_C_finish y_C_finish ∈ TT := tt_in 413 (by decide +kernel) (by decide +kernel)
theorem k_414 : Cond.code y_C_finish b_C_finish 2 (some .int) ∈ TT := tt_in 414 (by decide +kernel) (by decide +kernel)
theorem k_416 : Cond.methodLink R_L 75 y_L_pass ∈ TT := tt_in 416 (by decide +kernel) (by decide +kernel)
theorem k_417 : Cond.static y_L_pass ∈ TT := tt_in 417 (by decide +kernel) (by decide +kernel)
theorem k_418 : Cond.codeWith y_L_pass b_L_pass 4 (some .int) [(0, 9, 12, 15)] ∈ TT := tt_in 418 (by decide +kernel) (by decide +kernel)
theorem k_419 : Cond.methodLink R_L 38 y_C_pass ∈ TT := tt_in 419 (by decide +kernel) (by decide +kernel)
theorem k_420 : Cond.instanceMethod y_C_pass ∈ TT := tt_in 420 (by decide +kernel) (by decide +kernel)
theorem k_421 : Cond.selects R_C y_C_pass y_C_pass ∈ TT := tt_in 421 (by decide +kernel) (by decide +kernel)
theorem k_422 : Cond.code y_C_pass b_C_pass 2 (some .int) ∈ TT := tt_in 422 (by decide +kernel) (by decide +kernel)
theorem k_424 : Cond.methodLink R_C 154 y_C_delayMoreUrgentThan ∈ TT := tt_in 424 (by decide +kernel) (by decide +kernel)
theorem k_426 : Cond.instanceMethod y_C_delayMoreUrgentThan ∈ TT := tt_in 426 (by decide +kernel) (by decide +kernel)
theorem k_427 : Cond.code y_C_delayMoreUrgentThan b_C_delayMoreUrgentThan 4 none ∈ TT := tt_in 427 (by decide +kernel) (by decide +kernel)
theorem k_428 : Cond.classLink R_L 42 R_M ∈ TT := tt_in 428 (by decide +kernel) (by decide +kernel)
theorem k_429 : Cond.instantiable R_M 18 ∈ TT := tt_in 429 (by decide +kernel) (by decide +kernel)
theorem k_430 : Cond.methodLink R_L 44 y_M_init ∈ TT := tt_in 430 (by decide +kernel) (by decide +kernel)
theorem k_431 : Cond.instanceMethod y_M_init ∈ TT := tt_in 431 (by decide +kernel) (by decide +kernel)
theorem k_432 : Cond.code y_M_init b_M_init 2 none ∈ TT := tt_in 432 (by decide +kernel) (by decide +kernel)
theorem k_433 : Cond.methodLink R_M 1 objectInit ∈ TT := tt_in 433 (by decide +kernel) (by decide +kernel)
theorem k_434 : Cond.fieldLink R_M 46 "CeilingDispatchModel" "thrown" "I" ∈ TT := tt_in 434 (by decide +kernel) (by decide +kernel)
theorem k_435 : Cond.fieldLink R_M 54 "CeilingDispatchModel" "sealed" "Z" ∈ TT := tt_in 435 (by decide +kernel) (by decide +kernel)
theorem k_436 : Cond.fieldLink R_M 75 "CeilingDispatchModel" "clock" "I" ∈ TT := tt_in 436 (by decide +kernel) (by decide +kernel)
theorem k_437 : Cond.fieldLink R_M 90 "CeilingDispatchModel" "releases" "I" ∈ TT := tt_in 437 (by decide +kernel) (by decide +kernel)
theorem k_438 : Cond.fieldLink R_M 7 "CeilingDispatchModel" "bases" "[I" ∈ TT := tt_in 438 (by decide +kernel) (by decide +kernel)
theorem k_439 : Cond.fieldLink R_M 13 "CeilingDispatchModel" "costs" "[I" ∈ TT := tt_in 439 (by decide +kernel) (by decide +kernel)
theorem k_440 : Cond.fieldLink R_M 16 "CeilingDispatchModel" "periods" "[I" ∈ TT := tt_in 440 (by decide +kernel) (by decide +kernel)
theorem k_441 : Cond.fieldLink R_M 19 "CeilingDispatchModel" "turns" "[I" ∈ TT := tt_in 441 (by decide +kernel) (by decide +kernel)
theorem k_442 : Cond.fieldLink R_M 22 "CeilingDispatchModel" "priorities" "[I" ∈ TT := tt_in 442 (by decide +kernel) (by decide +kernel)
theorem k_443 : Cond.fieldLink R_M 25 "CeilingDispatchModel" "works" "[I" ∈ TT := tt_in 443 (by decide +kernel) (by decide +kernel)
theorem k_444 : Cond.fieldLink R_M 28 "CeilingDispatchModel" "delays" "[I" ∈ TT := tt_in 444 (by decide +kernel) (by decide +kernel)
theorem k_445 : Cond.fieldLink R_M 31 "CeilingDispatchModel" "lengths" "[I" ∈ TT := tt_in 445 (by decide +kernel) (by decide +kernel)
theorem k_446 : Cond.fieldLink R_M 34 "CeilingDispatchModel" "holders" "[I" ∈ TT := tt_in 446 (by decide +kernel) (by decide +kernel)
theorem k_447 : Cond.fieldLink R_M 37 "CeilingDispatchModel" "before" "[I" ∈ TT := tt_in 447 (by decide +kernel) (by decide +kernel)
theorem k_448 : Cond.fieldLink R_M 40 "CeilingDispatchModel" "taken" "[I" ∈ TT := tt_in 448 (by decide +kernel) (by decide +kernel)
theorem k_449 : Cond.fieldLink R_M 97 "CeilingDispatchModel" "takes" "I" ∈ TT := tt_in 449 (by decide +kernel) (by decide +kernel)
theorem k_450 : Cond.fieldLink R_M 72 "CeilingDispatchModel" "made" "I" ∈ TT := tt_in 450 (by decide +kernel) (by decide +kernel)
theorem k_451 : Cond.fieldLink R_M 43 "CeilingDispatchModel" "kept" "[I" ∈ TT := tt_in 451 (by decide +kernel) (by decide +kernel)
theorem k_489 : Cond.methodLink R_L 51 y_M_thrown ∈ TT := tt_in 489 (by decide +kernel) (by decide +kernel)
theorem k_490 : Cond.instanceMethod y_M_thrown ∈ TT := tt_in 490 (by decide +kernel) (by decide +kernel)
theorem k_491 : Cond.selects R_M y_M_thrown y_M_thrown ∈ TT := tt_in 491 (by decide +kernel) (by decide +kernel)
theorem k_492 : Cond.code y_M_thrown b_M_thrown 1 (some .int) ∈ TT := tt_in 492 (by decide +kernel) (by decide +kernel)
theorem k_493 : Cond.methodLink R_L 50 y_M_declare ∈ TT := tt_in 493 (by decide +kernel) (by decide +kernel)
theorem k_494 : Cond.instanceMethod y_M_declare ∈ TT := tt_in 494 (by decide +kernel) (by decide +kernel)
theorem k_495 : Cond.selects R_M y_M_declare y_M_declare ∈ TT := tt_in 495 (by decide +kernel) (by decide +kernel)
theorem k_496 : Cond.code y_M_declare b_M_declare 6 none ∈ TT := tt_in 496 (by decide +kernel) (by decide +kernel)
theorem k_497 : Cond.methodLink R_M 50 y_M_isTask ∈ TT := tt_in 497 (by decide +kernel) (by decide +kernel)
theorem k_498 : Cond.static y_M_isTask ∈ TT := tt_in 498 (by decide +kernel) (by decide +kernel)
theorem k_499 : Cond.code y_M_isTask b_M_isTask 1 (some .boolean) ∈ TT := tt_in 499 (by decide +kernel) (by decide +kernel)
theorem k_500 : Cond.methodLink R_M 58 y_M_isDeclared ∈ TT := tt_in 500 (by decide +kernel) (by decide +kernel)
theorem k_502 : Cond.instanceMethod y_M_isDeclared ∈ TT := tt_in 502 (by decide +kernel) (by decide +kernel)
theorem k_503 : Cond.code y_M_isDeclared b_M_isDeclared 2 (some .boolean) ∈ TT := tt_in 503 (by decide +kernel) (by decide +kernel)
theorem k_504 : Cond.methodLink R_M 61 y_M_refuses ∈ TT := tt_in 504 (by decide +kernel) (by decide +kernel)
theorem k_506 : Cond.instanceMethod y_M_refuses ∈ TT := tt_in 506 (by decide +kernel) (by decide +kernel)
theorem k_507 : Cond.code y_M_refuses b_M_refuses 3 (some .boolean) ∈ TT := tt_in 507 (by decide +kernel) (by decide +kernel)
theorem k_508 : Cond.methodLink R_L 57 y_M_mayUse ∈ TT := tt_in 508 (by decide +kernel) (by decide +kernel)
theorem k_509 : Cond.instanceMethod y_M_mayUse ∈ TT := tt_in 509 (by decide +kernel) (by decide +kernel)
theorem k_510 : Cond.selects R_M y_M_mayUse y_M_mayUse ∈ TT := tt_in 510 (by decide +kernel) (by decide +kernel)
theorem k_511 : Cond.code y_M_mayUse b_M_mayUse 4 none ∈ TT := tt_in 511 (by decide +kernel) (by decide +kernel)
theorem k_512 : Cond.methodLink R_M 65 y_M_isThing ∈ TT := tt_in 512 (by decide +kernel) (by decide +kernel)
theorem k_513 : Cond.static y_M_isThing ∈ TT := tt_in 513 (by decide +kernel) (by decide +kernel)
theorem k_514 : Cond.code y_M_isThing b_M_isThing 1 (some .boolean) ∈ TT := tt_in 514 (by decide +kernel) (by decide +kernel)
theorem k_515 : Cond.methodLink R_L 61 y_M_seal ∈ TT := tt_in 515 (by decide +kernel) (by decide +kernel)
theorem k_516 : Cond.instanceMethod y_M_seal ∈ TT := tt_in 516 (by decide +kernel) (by decide +kernel)
theorem k_517 : Cond.selects R_M y_M_seal y_M_seal ∈ TT := tt_in 517 (by decide +kernel) (by decide +kernel)
theorem k_518 : Cond.code y_M_seal b_M_seal 3 (some .int) ∈ TT := tt_in 518 (by decide +kernel) (by decide +kernel)
theorem k_519 : Cond.methodLink R_L 65 y_M_release ∈ TT := tt_in 519 (by decide +kernel) (by decide +kernel)
theorem k_520 : Cond.instanceMethod y_M_release ∈ TT := tt_in 520 (by decide +kernel) (by decide +kernel)
theorem k_521 : Cond.selects R_M y_M_release y_M_release ∈ TT := tt_in 521 (by decide +kernel) (by decide +kernel)
theorem k_522 : Cond.code y_M_release b_M_release 3 (some .int) ∈ TT := tt_in 522 (by decide +kernel) (by decide +kernel)
theorem k_523 : Cond.methodLink R_M 87 y_M_isReady ∈ TT := tt_in 523 (by decide +kernel) (by decide +kernel)
theorem k_525 : Cond.instanceMethod y_M_isReady ∈ TT := tt_in 525 (by decide +kernel) (by decide +kernel)
theorem k_526 : Cond.code y_M_isReady b_M_isReady 2 (some .boolean) ∈ TT := tt_in 526 (by decide +kernel) (by decide +kernel)
theorem k_527 : Cond.methodLink R_M 83 y_M_runner ∈ TT := tt_in 527 (by decide +kernel) (by decide +kernel)
theorem k_529 : Cond.instanceMethod y_M_runner ∈ TT := tt_in 529 (by decide +kernel) (by decide +kernel)
theorem k_530 : Cond.code y_M_runner b_M_runner 3 (some .int) ∈ TT := tt_in 530 (by decide +kernel) (by decide +kernel)
theorem k_531 : Cond.methodLink R_M 68 y_M_isFirst ∈ TT := tt_in 531 (by decide +kernel) (by decide +kernel)
theorem k_533 : Cond.instanceMethod y_M_isFirst ∈ TT := tt_in 533 (by decide +kernel) (by decide +kernel)
theorem k_534 : Cond.code y_M_isFirst b_M_isFirst 3 (some .boolean) ∈ TT := tt_in 534 (by decide +kernel) (by decide +kernel)
theorem k_535 : Cond.methodLink R_M 93 y_M_tell ∈ TT := tt_in 535 (by decide +kernel) (by decide +kernel)
theorem k_537 : Cond.instanceMethod y_M_tell ∈ TT := tt_in 537 (by decide +kernel) (by decide +kernel)
theorem k_538 : Cond.code y_M_tell b_M_tell 6 none ∈ TT := tt_in 538 (by decide +kernel) (by decide +kernel)
theorem k_539 : Cond.methodLink R_M 79 y_M_add ∈ TT := tt_in 539 (by decide +kernel) (by decide +kernel)
theorem k_541 : Cond.instanceMethod y_M_add ∈ TT := tt_in 541 (by decide +kernel) (by decide +kernel)
theorem k_542 : Cond.code y_M_add b_M_add 4 none ∈ TT := tt_in 542 (by decide +kernel) (by decide +kernel)
theorem k_543 : Cond.constant R_M 78 65536 ∈ TT := tt_in 543 (by decide +kernel) (by decide +kernel)
theorem k_544 : Cond.methodLink R_L 68 y_M_take ∈ TT := tt_in 544 (by decide +kernel) (by decide +kernel)
theorem k_545 : Cond.instanceMethod y_M_take ∈ TT := tt_in 545 (by decide +kernel) (by decide +kernel)
theorem k_546 : Cond.selects R_M y_M_take y_M_take ∈ TT := tt_in 546 (by decide +kernel) (by decide +kernel)
theorem k_547 : Cond.code y_M_take b_M_take 6 (some .int) ∈ TT := tt_in 547 (by decide +kernel) (by decide +kernel)
theorem k_548 : Cond.methodLink R_M 100 y_M_top ∈ TT := tt_in 548 (by decide +kernel) (by decide +kernel)
theorem k_550 : Cond.instanceMethod y_M_top ∈ TT := tt_in 550 (by decide +kernel) (by decide +kernel)
theorem k_551 : Cond.code y_M_top b_M_top 4 (some .int) ∈ TT := tt_in 551 (by decide +kernel) (by decide +kernel)
theorem k_552 : Cond.methodLink R_L 71 y_M_give ∈ TT := tt_in 552 (by decide +kernel) (by decide +kernel)
theorem k_553 : Cond.instanceMethod y_M_give ∈ TT := tt_in 553 (by decide +kernel) (by decide +kernel)
theorem k_554 : Cond.selects R_M y_M_give y_M_give ∈ TT := tt_in 554 (by decide +kernel) (by decide +kernel)
theorem k_555 : Cond.code y_M_give b_M_give 3 (some .int) ∈ TT := tt_in 555 (by decide +kernel) (by decide +kernel)
theorem k_556 : Cond.methodLink R_M 104 y_M_latest ∈ TT := tt_in 556 (by decide +kernel) (by decide +kernel)
theorem k_558 : Cond.instanceMethod y_M_latest ∈ TT := tt_in 558 (by decide +kernel) (by decide +kernel)
theorem k_559 : Cond.code y_M_latest b_M_latest 4 (some .int) ∈ TT := tt_in 559 (by decide +kernel) (by decide +kernel)
theorem k_560 : Cond.methodLink R_L 74 y_M_finish ∈ TT := tt_in 560 (by decide +kernel) (by decide +kernel)
theorem k_561 : Cond.instanceMethod y_M_finish ∈ TT := tt_in 561 (by decide +kernel) (by decide +kernel)
theorem k_562 : Cond.selects R_M y_M_finish y_M_finish ∈ TT := tt_in 562 (by decide +kernel) (by decide +kernel)
theorem k_563 : Cond.code y_M_finish b_M_finish 2 (some .int) ∈ TT := tt_in 563 (by decide +kernel) (by decide +kernel)
theorem k_564 : Cond.methodLink R_L 77 y_M_pass ∈ TT := tt_in 564 (by decide +kernel) (by decide +kernel)
theorem k_565 : Cond.instanceMethod y_M_pass ∈ TT := tt_in 565 (by decide +kernel) (by decide +kernel)
theorem k_566 : Cond.selects R_M y_M_pass y_M_pass ∈ TT := tt_in 566 (by decide +kernel) (by decide +kernel)
theorem k_567 : Cond.code y_M_pass b_M_pass 4 (some .int) ∈ TT := tt_in 567 (by decide +kernel) (by decide +kernel)
theorem k_568 : Cond.methodLink R_L 81 y_M_running ∈ TT := tt_in 568 (by decide +kernel) (by decide +kernel)
theorem k_569 : Cond.instanceMethod y_M_running ∈ TT := tt_in 569 (by decide +kernel) (by decide +kernel)
theorem k_570 : Cond.selects R_M y_M_running y_M_running ∈ TT := tt_in 570 (by decide +kernel) (by decide +kernel)
theorem k_571 : Cond.code y_M_running b_M_running 1 (some .int) ∈ TT := tt_in 571 (by decide +kernel) (by decide +kernel)
theorem k_572 : Cond.methodLink R_L 85 y_M_priority ∈ TT := tt_in 572 (by decide +kernel) (by decide +kernel)
theorem k_573 : Cond.instanceMethod y_M_priority ∈ TT := tt_in 573 (by decide +kernel) (by decide +kernel)
theorem k_574 : Cond.selects R_M y_M_priority y_M_priority ∈ TT := tt_in 574 (by decide +kernel) (by decide +kernel)
theorem k_575 : Cond.code y_M_priority b_M_priority 2 (some .int) ∈ TT := tt_in 575 (by decide +kernel) (by decide +kernel)
theorem k_576 : Cond.methodLink R_L 89 y_M_place ∈ TT := tt_in 576 (by decide +kernel) (by decide +kernel)
theorem k_577 : Cond.instanceMethod y_M_place ∈ TT := tt_in 577 (by decide +kernel) (by decide +kernel)
theorem k_578 : Cond.selects R_M y_M_place y_M_place ∈ TT := tt_in 578 (by decide +kernel) (by decide +kernel)
theorem k_579 : Cond.code y_M_place b_M_place 4 (some .int) ∈ TT := tt_in 579 (by decide +kernel) (by decide +kernel)
theorem k_580 : Cond.methodLink R_L 93 y_M_ceiling ∈ TT := tt_in 580 (by decide +kernel) (by decide +kernel)
theorem k_581 : Cond.instanceMethod y_M_ceiling ∈ TT := tt_in 581 (by decide +kernel) (by decide +kernel)
theorem k_582 : Cond.selects R_M y_M_ceiling y_M_ceiling ∈ TT := tt_in 582 (by decide +kernel) (by decide +kernel)
theorem k_583 : Cond.code y_M_ceiling b_M_ceiling 2 (some .int) ∈ TT := tt_in 583 (by decide +kernel) (by decide +kernel)
theorem k_584 : Cond.methodLink R_L 97 y_M_holder ∈ TT := tt_in 584 (by decide +kernel) (by decide +kernel)
theorem k_585 : Cond.instanceMethod y_M_holder ∈ TT := tt_in 585 (by decide +kernel) (by decide +kernel)
theorem k_586 : Cond.selects R_M y_M_holder y_M_holder ∈ TT := tt_in 586 (by decide +kernel) (by decide +kernel)
theorem k_587 : Cond.code y_M_holder b_M_holder 2 (some .int) ∈ TT := tt_in 587 (by decide +kernel) (by decide +kernel)
theorem k_588 : Cond.methodLink R_L 102 y_M_spent ∈ TT := tt_in 588 (by decide +kernel) (by decide +kernel)
theorem k_589 : Cond.instanceMethod y_M_spent ∈ TT := tt_in 589 (by decide +kernel) (by decide +kernel)
theorem k_590 : Cond.selects R_M y_M_spent y_M_spent ∈ TT := tt_in 590 (by decide +kernel) (by decide +kernel)
theorem k_591 : Cond.code y_M_spent b_M_spent 3 (some .int) ∈ TT := tt_in 591 (by decide +kernel) (by decide +kernel)
theorem k_592 : Cond.methodLink R_L 106 y_M_blocking ∈ TT := tt_in 592 (by decide +kernel) (by decide +kernel)
theorem k_593 : Cond.instanceMethod y_M_blocking ∈ TT := tt_in 593 (by decide +kernel) (by decide +kernel)
theorem k_594 : Cond.selects R_M y_M_blocking y_M_blocking ∈ TT := tt_in 594 (by decide +kernel) (by decide +kernel)
theorem k_595 : Cond.code y_M_blocking b_M_blocking 2 (some .int) ∈ TT := tt_in 595 (by decide +kernel) (by decide +kernel)
theorem k_596 : Cond.methodLink R_M 107 y_M_longest ∈ TT := tt_in 596 (by decide +kernel) (by decide +kernel)
theorem k_598 : Cond.instanceMethod y_M_longest ∈ TT := tt_in 598 (by decide +kernel) (by decide +kernel)
theorem k_599 : Cond.code y_M_longest b_M_longest 5 (some .int) ∈ TT := tt_in 599 (by decide +kernel) (by decide +kernel)
theorem k_600 : Cond.methodLink R_L 110 y_M_response ∈ TT := tt_in 600 (by decide +kernel) (by decide +kernel)
theorem k_601 : Cond.instanceMethod y_M_response ∈ TT := tt_in 601 (by decide +kernel) (by decide +kernel)
theorem k_602 : Cond.selects R_M y_M_response y_M_response ∈ TT := tt_in 602 (by decide +kernel) (by decide +kernel)
theorem k_603 : Cond.code y_M_response b_M_response 3 (some .int) ∈ TT := tt_in 603 (by decide +kernel) (by decide +kernel)
theorem k_604 : Cond.methodLink R_M 110 y_M_load ∈ TT := tt_in 604 (by decide +kernel) (by decide +kernel)
theorem k_606 : Cond.instanceMethod y_M_load ∈ TT := tt_in 606 (by decide +kernel) (by decide +kernel)
theorem k_607 : Cond.code y_M_load b_M_load 6 (some .int) ∈ TT := tt_in 607 (by decide +kernel) (by decide +kernel)
theorem k_608 : Cond.methodLink R_L 114 y_M_notes ∈ TT := tt_in 608 (by decide +kernel) (by decide +kernel)
theorem k_609 : Cond.instanceMethod y_M_notes ∈ TT := tt_in 609 (by decide +kernel) (by decide +kernel)
theorem k_610 : Cond.selects R_M y_M_notes y_M_notes ∈ TT := tt_in 610 (by decide +kernel) (by decide +kernel)
theorem k_611 : Cond.code y_M_notes b_M_notes 1 (some .int) ∈ TT := tt_in 611 (by decide +kernel) (by decide +kernel)
theorem k_612 : Cond.methodLink R_L 118 y_M_note ∈ TT := tt_in 612 (by decide +kernel) (by decide +kernel)
theorem k_613 : Cond.instanceMethod y_M_note ∈ TT := tt_in 613 (by decide +kernel) (by decide +kernel)
theorem k_614 : Cond.selects R_M y_M_note y_M_note ∈ TT := tt_in 614 (by decide +kernel) (by decide +kernel)
theorem k_615 : Cond.code y_M_note b_M_note 2 (some .int) ∈ TT := tt_in 615 (by decide +kernel) (by decide +kernel)
theorem k_616 : Cond.arrayClass .long ∈ TT := tt_in 616 (by decide +kernel) (by decide +kernel)
-- words across the nest
def nw9 : List Cond := [Cond.methodLinkNest R_C 23 y_N_init "CeilingDispatch", Cond.methodLinkNest R_C 42 y_T_init "CeilingDispatch", Cond.methodLinkNest R_C 43 y_H_init "CeilingDispatch", Cond.fieldLinkNest R_C 64 "CeilingDispatch$Task" "base" "I" "CeilingDispatch", Cond.fieldLinkNest R_C 67 "CeilingDispatch$Task" "cost" "I" "CeilingDispatch", Cond.fieldLinkNest R_C 70 "CeilingDispatch$Task" "period" "I" "CeilingDispatch", Cond.fieldLinkNest R_C 79 "CeilingDispatch$Task" "lengths" "[I" "CeilingDispatch", Cond.fieldLinkNest R_C 87 "CeilingDispatch$Thing" "ceiling" "I" "CeilingDispatch", Cond.fieldLinkNest R_C 119 "CeilingDispatch$Thing" "holder" "I" "CeilingDispatch", Cond.fieldLinkNest R_C 122 "CeilingDispatch$Task" "lastTaken" "I" "CeilingDispatch", Cond.fieldLinkNest R_C 125 "CeilingDispatch$Thing" "takenBefore" "I" "CeilingDispatch", Cond.fieldLinkNest R_C 128 "CeilingDispatch$Task" "priority" "I" "CeilingDispatch", Cond.fieldLinkNest R_C 131 "CeilingDispatch$Thing" "priorityBefore" "I" "CeilingDispatch", Cond.fieldLinkNest R_C 146 "CeilingDispatch$Task" "ready" "Z" "CeilingDispatch", Cond.fieldLinkNest R_C 149 "CeilingDispatch$Task" "work" "I" "CeilingDispatch", Cond.fieldLinkNest R_C 162 "CeilingDispatch$Task" "delay" "I" "CeilingDispatch", Cond.fieldLinkNest R_C 171 "CeilingDispatch$NoteBook" "made" "I" "CeilingDispatch"]
theorem nk_C_23 : Cond.methodLinkNest R_C 23 y_N_init "CeilingDispatch" ∈ nw9 := List.mem_of_getElem? (i := 0) rfl
theorem nk_C_42 : Cond.methodLinkNest R_C 42 y_T_init "CeilingDispatch" ∈ nw9 := List.mem_of_getElem? (i := 1) rfl
theorem nk_C_43 : Cond.methodLinkNest R_C 43 y_H_init "CeilingDispatch" ∈ nw9 := List.mem_of_getElem? (i := 2) rfl
theorem nk_C_64 : Cond.fieldLinkNest R_C 64 "CeilingDispatch$Task" "base" "I" "CeilingDispatch" ∈ nw9 := List.mem_of_getElem? (i := 3) rfl
theorem nk_C_67 : Cond.fieldLinkNest R_C 67 "CeilingDispatch$Task" "cost" "I" "CeilingDispatch" ∈ nw9 := List.mem_of_getElem? (i := 4) rfl
theorem nk_C_70 : Cond.fieldLinkNest R_C 70 "CeilingDispatch$Task" "period" "I" "CeilingDispatch" ∈ nw9 := List.mem_of_getElem? (i := 5) rfl
theorem nk_C_79 : Cond.fieldLinkNest R_C 79 "CeilingDispatch$Task" "lengths" "[I" "CeilingDispatch" ∈ nw9 := List.mem_of_getElem? (i := 6) rfl
theorem nk_C_87 : Cond.fieldLinkNest R_C 87 "CeilingDispatch$Thing" "ceiling" "I" "CeilingDispatch" ∈ nw9 := List.mem_of_getElem? (i := 7) rfl
theorem nk_C_119 : Cond.fieldLinkNest R_C 119 "CeilingDispatch$Thing" "holder" "I" "CeilingDispatch" ∈ nw9 := List.mem_of_getElem? (i := 8) rfl
theorem nk_C_122 : Cond.fieldLinkNest R_C 122 "CeilingDispatch$Task" "lastTaken" "I" "CeilingDispatch" ∈ nw9 := List.mem_of_getElem? (i := 9) rfl
theorem nk_C_125 : Cond.fieldLinkNest R_C 125 "CeilingDispatch$Thing" "takenBefore" "I" "CeilingDispatch" ∈ nw9 := List.mem_of_getElem? (i := 10) rfl
theorem nk_C_128 : Cond.fieldLinkNest R_C 128 "CeilingDispatch$Task" "priority" "I" "CeilingDispatch" ∈ nw9 := List.mem_of_getElem? (i := 11) rfl
theorem nk_C_131 : Cond.fieldLinkNest R_C 131 "CeilingDispatch$Thing" "priorityBefore" "I" "CeilingDispatch" ∈ nw9 := List.mem_of_getElem? (i := 12) rfl
theorem nk_C_146 : Cond.fieldLinkNest R_C 146 "CeilingDispatch$Task" "ready" "Z" "CeilingDispatch" ∈ nw9 := List.mem_of_getElem? (i := 13) rfl
theorem nk_C_149 : Cond.fieldLinkNest R_C 149 "CeilingDispatch$Task" "work" "I" "CeilingDispatch" ∈ nw9 := List.mem_of_getElem? (i := 14) rfl
theorem nk_C_162 : Cond.fieldLinkNest R_C 162 "CeilingDispatch$Task" "delay" "I" "CeilingDispatch" ∈ nw9 := List.mem_of_getElem? (i := 15) rfl
theorem nk_C_171 : Cond.fieldLinkNest R_C 171 "CeilingDispatch$NoteBook" "made" "I" "CeilingDispatch" ∈ nw9 := List.mem_of_getElem? (i := 16) rfl
theorem nw9_in : ∀ w ∈ nw9, w ∈ lw_tbl := by
  have h : nw9 = [49, 63, 108, 68, 70, 72, 74, 113, 115, 81, 117, 78, 119, 76, 83, 85, 55].filterMap (fun i => lw_tbl[i]?) := by decide +kernel
  intro w hw
  rw [h] at hw
  obtain ⟨i, -, hi⟩ := List.mem_filterMap.mp hw
  exact List.mem_of_getElem? hi
end
section
-- states, worlds, calls
abbrev St : Type := Nat → Nat → Int32
def wr (s : St) (c k : Nat) (v : Int32) : St := fun c' k' => if c' = c ∧ k' = k then v else s c' k'
theorem wr_eq (s : St) (c k : Nat) (v : Int32) : wr s c k v c k = v := by simp [wr]
theorem wr_ne {s : St} {c k c' k' : Nat} {v : Int32} (h : ¬ (c' = c ∧ k' = k)) : wr s c k v c' k' = s c' k' := by simp [wr, h]
theorem wr_cell {s : St} {c k c' : Nat} {v : Int32} (h : c' ≠ c) : wr s c k v c' = s c' := by funext k'; simp [wr, h]
theorem wr_upd (s : St) (c k : Nat) (v : Int32) : wr s c k v c = upd (s c) k v := by funext k'; simp [wr, upd]
def imax (x y : Int32) : Int32 := if x < y then y else x
def irem (x y : Int32) : Int32 := x - x / y * y
section CWdefs
variable (cI cT cH : ClassId) (ad : Nat → Nat) (s : St)
def oF : List Value := [.ref (ad 1), .ref (ad 2), .ref (ad 3), .int (s 0 3), .int (s 0 4), .int (s 0 5), .int (s 0 6)]
def tF (c : Nat) : List Value := [.int (s c 0), .int (s c 1), .int (s c 2), .ref (ad (c + 1)), .int (s c 4), .int (s c 5), .int (s c 6), .int (s c 7), .int (s c 8), .int (s c 9)]
def hF (c : Nat) : List Value := [.int (s c 0), .int (s c 1), .int (s c 2), .int (s c 3)]
def bF : List Value := [.ref (ad 4), .int (s 3 1)]
/-- what cell j of the class's world holds -/
def cE (j : Nat) : va_E :=
  if j = 0 then .inr (0, oF ad s)
  else if j = 1 then .inl (cT, 8, .inr (.inr (.inr (.inr (fun i => some (ad (5 + 2 * i)))))))
  else if j = 2 then .inl (cH, 6, .inr (.inr (.inr (.inr (fun i => some (ad (21 + i)))))))
  else if j = 3 then .inr (3, bF ad s)
  else if j = 4 then .inl (cI, 40, .inl (s 4))
  else if 21 ≤ j then .inr (2, hF s j)
  else if j % 2 = 1 then .inr (1, tF ad s j)
  else .inl (cI, 6, .inl (s j))
def cw : va_W := (List.range 27).map (fun j => (ad j, cE cI cT cH ad s j))
end CWdefs
section CWrows
variable {cI cT cH : ClassId} {ad : Nat → Nat} {s s' : St}
theorem cw_at {j : Nat} (h : j < 27) : (cw cI cT cH ad s)[j]? = some (ad j, cE cI cT cH ad s j) := by
  simp [cw, h]
theorem cE_congr {j : Nat} (h : s' j = s j) : cE cI cT cH ad s' j = cE cI cT cH ad s j := by
  unfold cE
  by_cases h0 : j = 0
  · subst h0; simp [oF, h]
  · by_cases h3 : j = 3
    · subst h3; simp [bF, h]
    · by_cases h4 : j = 4
      · subst h4; simp [h]
      · simp [h0, h3, h4, hF, tF, h]
theorem cw_set {q : Nat} {e : va_E} (hq : q < 27) (h1 : cE cI cT cH ad s' q = e) (h2 : ∀ j, j ≠ q → s' j = s j) : (cw cI cT cH ad s).set q (ad q, e) = cw cI cT cH ad s' := by
  apply List.ext_getElem?
  intro j
  by_cases hj : j < 27
  · rw [cw_at (s := s') hj]
    by_cases e1 : j = q
    · subst e1
      rw [List.getElem?_set_self (by simpa [cw] using hq), h1]
    · rw [List.getElem?_set_ne (fun h => e1 h.symm), cw_at hj, cE_congr (h2 j e1)]
  · rw [List.getElem?_eq_none (by simpa [cw] using Nat.not_lt.mp hj), List.getElem?_eq_none (by simpa [cw] using Nat.not_lt.mp hj)]
theorem cE_k {j : Nat} (h : j < 8) : cE cI cT cH ad s (5 + 2 * j) = .inr (1, tF ad s (5 + 2 * j)) := by
  unfold cE
  rw [if_neg (by omega), if_neg (by omega), if_neg (by omega), if_neg (by omega), if_neg (by omega), if_neg (by omega), if_pos (by omega)]
theorem cE_l {j : Nat} (h : j < 8) : cE cI cT cH ad s (5 + 2 * j + 1) = .inl (cI, 6, .inl (s (5 + 2 * j + 1))) := by
  unfold cE
  rw [if_neg (by omega), if_neg (by omega), if_neg (by omega), if_neg (by omega), if_neg (by omega), if_neg (by omega), if_neg (by omega)]
theorem cE_h {k : Nat} (h : k < 6) : cE cI cT cH ad s (21 + k) = .inr (2, hF s (21 + k)) := by
  unfold cE
  rw [if_neg (by omega), if_neg (by omega), if_neg (by omega), if_neg (by omega), if_neg (by omega), if_pos (by omega)]
theorem cw_0 : (cw cI cT cH ad s)[0]? = some (ad 0, .inr (0, oF ad s)) := cw_at (by decide)
theorem cw_1 : (cw cI cT cH ad s)[1]? = some (ad 1, .inl (cT, 8, .inr (.inr (.inr (.inr (fun i => some (ad (5 + 2 * i)))))))) := cw_at (by decide)
theorem cw_2 : (cw cI cT cH ad s)[2]? = some (ad 2, .inl (cH, 6, .inr (.inr (.inr (.inr (fun i => some (ad (21 + i)))))))) := cw_at (by decide)
theorem cw_3 : (cw cI cT cH ad s)[3]? = some (ad 3, .inr (3, bF ad s)) := cw_at (by decide)
theorem cw_4 : (cw cI cT cH ad s)[4]? = some (ad 4, .inl (cI, 40, .inl (s 4))) := cw_at (by decide)
theorem cw_k {j : Nat} (h : j < 8) : (cw cI cT cH ad s)[5 + 2 * j]? = some (ad (5 + 2 * j), .inr (1, tF ad s (5 + 2 * j))) := by rw [cw_at (by omega), cE_k h]
theorem cw_l {j : Nat} (h : j < 8) : (cw cI cT cH ad s)[5 + 2 * j + 1]? = some (ad (5 + 2 * j + 1), .inl (cI, 6, .inl (s (5 + 2 * j + 1)))) := by rw [cw_at (by omega), cE_l h]
theorem cw_h {k : Nat} (h : k < 6) : (cw cI cT cH ad s)[21 + k]? = some (ad (21 + k), .inr (2, hF s (21 + k))) := by rw [cw_at (by omega), cE_h h]
-- writes of int slots
theorem cp_0 {k : Nat} (hk : k = 3 ∨ k = 4 ∨ k = 5 ∨ k = 6) (v : Int32) : (cw cI cT cH ad s).set 0 (ad 0, .inr (0, (oF ad s).set k (.int v))) = cw cI cT cH ad (wr s 0 k v) := by
  refine cw_set (by decide) ?_ (fun j h => wr_cell h)
  show Sum.inr (0, oF ad (wr s 0 k v)) = _
  rcases hk with rfl | rfl | rfl | rfl <;> simp [oF, wr]
theorem cp_3 (v : Int32) : (cw cI cT cH ad s).set 3 (ad 3, .inr (3, (bF ad s).set 1 (.int v))) = cw cI cT cH ad (wr s 3 1 v) := by
  refine cw_set (by decide) ?_ (fun j h => wr_cell h)
  show Sum.inr (3, bF ad (wr s 3 1 v)) = _
  simp [bF, wr]
theorem cp_4 (i : Nat) (v : Int32) : (cw cI cT cH ad s).set 4 (ad 4, .inl (cI, 40, .inl (upd (s 4) i v))) = cw cI cT cH ad (wr s 4 i v) := by
  refine cw_set (by decide) ?_ (fun j h => wr_cell h)
  show Sum.inl (cI, 40, Sum.inl (wr s 4 i v 4)) = _
  rw [wr_upd]
theorem cp_k {j k : Nat} (h : j < 8) (hk : k < 10) (h3 : k ≠ 3) (v : Int32) : (cw cI cT cH ad s).set (5 + 2 * j) (ad (5 + 2 * j), .inr (1, (tF ad s (5 + 2 * j)).set k (.int v))) = cw cI cT cH ad (wr s (5 + 2 * j) k v) := by
  refine cw_set (by omega) ?_ (fun j h => wr_cell h)
  rw [cE_k h]
  have hk : k = 0 ∨ k = 1 ∨ k = 2 ∨ k = 4 ∨ k = 5 ∨ k = 6 ∨ k = 7 ∨ k = 8 ∨ k = 9 := by omega
  rcases hk with rfl | rfl | rfl | rfl | rfl | rfl | rfl | rfl | rfl <;> simp [tF, wr]
theorem cp_l {j : Nat} (h : j < 8) (i : Nat) (v : Int32) : (cw cI cT cH ad s).set (5 + 2 * j + 1) (ad (5 + 2 * j + 1), .inl (cI, 6, .inl (upd (s (5 + 2 * j + 1)) i v))) = cw cI cT cH ad (wr s (5 + 2 * j + 1) i v) := by
  refine cw_set (by omega) ?_ (fun j h => wr_cell h)
  rw [cE_l h, wr_upd]
theorem cp_h {j k : Nat} (h : j < 6) (hk : k < 4) (v : Int32) : (cw cI cT cH ad s).set (21 + j) (ad (21 + j), .inr (2, (hF s (21 + j)).set k (.int v))) = cw cI cT cH ad (wr s (21 + j) k v) := by
  refine cw_set (by omega) ?_ (fun j h => wr_cell h)
  rw [cE_h h]
  have hk : k = 0 ∨ k = 1 ∨ k = 2 ∨ k = 3 := by omega
  rcases hk with rfl | rfl | rfl | rfl <;> simp [hF, wr]
end CWrows
section MWdefs
variable (cI : ClassId) (ad : Nat → Nat) (s : St)
def mF : List Value := [.int (s 0 0), .int (s 0 1), .int (s 0 2), .int (s 0 3), .ref (ad 1), .ref (ad 2), .ref (ad 3), .ref (ad 4), .ref (ad 5), .ref (ad 6), .ref (ad 7), .ref (ad 8), .ref (ad 9), .ref (ad 10), .ref (ad 11), .int (s 0 15), .int (s 0 16), .ref (ad 12)]
def mL (j : Nat) : Nat := match j with
  | 8 => 48
  | 9 => 6
  | 10 => 6
  | 11 => 6
  | 12 => 40
  | _ => 8
/-- what cell j of the reference's world holds -/
def mE (j : Nat) : va_E := if j = 0 then .inr (4, mF ad s) else .inl (cI, mL j, .inl (s j))
def mw : va_W := (List.range 13).map (fun j => (ad j, mE cI ad s j))
end MWdefs
section MWrows
variable {cI : ClassId} {ad : Nat → Nat} {s s' : St}
theorem mw_at {j : Nat} (h : j < 13) : (mw cI ad s)[j]? = some (ad j, mE cI ad s j) := by
  simp [mw, h]
theorem mE_congr {j : Nat} (h : s' j = s j) : mE cI ad s' j = mE cI ad s j := by
  unfold mE
  by_cases h0 : j = 0
  · subst h0; simp [mF, h]
  · simp [h0, h]
theorem mw_set {q : Nat} {e : va_E} (hq : q < 13) (h1 : mE cI ad s' q = e) (h2 : ∀ j, j ≠ q → s' j = s j) : (mw cI ad s).set q (ad q, e) = mw cI ad s' := by
  apply List.ext_getElem?
  intro j
  by_cases hj : j < 13
  · rw [mw_at (s := s') hj]
    by_cases e1 : j = q
    · subst e1
      rw [List.getElem?_set_self (by simpa [mw] using hq), h1]
    · rw [List.getElem?_set_ne (fun h => e1 h.symm), mw_at hj, mE_congr (h2 j e1)]
  · rw [List.getElem?_eq_none (by simpa [mw] using Nat.not_lt.mp hj), List.getElem?_eq_none (by simpa [mw] using Nat.not_lt.mp hj)]
theorem mw_0 : (mw cI ad s)[0]? = some (ad 0, .inr (4, mF ad s)) := mw_at (by decide)
theorem mw_1 : (mw cI ad s)[1]? = some (ad 1, .inl (cI, 8, .inl (s 1))) := mw_at (by decide)
theorem mw_2 : (mw cI ad s)[2]? = some (ad 2, .inl (cI, 8, .inl (s 2))) := mw_at (by decide)
theorem mw_3 : (mw cI ad s)[3]? = some (ad 3, .inl (cI, 8, .inl (s 3))) := mw_at (by decide)
theorem mw_4 : (mw cI ad s)[4]? = some (ad 4, .inl (cI, 8, .inl (s 4))) := mw_at (by decide)
theorem mw_5 : (mw cI ad s)[5]? = some (ad 5, .inl (cI, 8, .inl (s 5))) := mw_at (by decide)
theorem mw_6 : (mw cI ad s)[6]? = some (ad 6, .inl (cI, 8, .inl (s 6))) := mw_at (by decide)
theorem mw_7 : (mw cI ad s)[7]? = some (ad 7, .inl (cI, 8, .inl (s 7))) := mw_at (by decide)
theorem mw_8 : (mw cI ad s)[8]? = some (ad 8, .inl (cI, 48, .inl (s 8))) := mw_at (by decide)
theorem mw_9 : (mw cI ad s)[9]? = some (ad 9, .inl (cI, 6, .inl (s 9))) := mw_at (by decide)
theorem mw_10 : (mw cI ad s)[10]? = some (ad 10, .inl (cI, 6, .inl (s 10))) := mw_at (by decide)
theorem mw_11 : (mw cI ad s)[11]? = some (ad 11, .inl (cI, 6, .inl (s 11))) := mw_at (by decide)
theorem mw_12 : (mw cI ad s)[12]? = some (ad 12, .inl (cI, 40, .inl (s 12))) := mw_at (by decide)
theorem mp_0 {k : Nat} (hk : k = 0 ∨ k = 1 ∨ k = 2 ∨ k = 3 ∨ k = 15 ∨ k = 16) (v : Int32) : (mw cI ad s).set 0 (ad 0, .inr (4, (mF ad s).set k (.int v))) = mw cI ad (wr s 0 k v) := by
  refine mw_set (by decide) ?_ (fun j h => wr_cell h)
  show Sum.inr (4, mF ad (wr s 0 k v)) = _
  rcases hk with rfl | rfl | rfl | rfl | rfl | rfl <;> simp [mF, wr]
theorem mp_a {j : Nat} (h0 : j ≠ 0) (hj : j < 13) (i : Nat) (v : Int32) : (mw cI ad s).set j (ad j, .inl (cI, mL j, .inl (upd (s j) i v))) = mw cI ad (wr s j i v) := by
  refine mw_set hj ?_ (fun j h => wr_cell h)
  unfold mE
  rw [if_neg h0, wr_upd]
theorem mp_1 {i : Nat} {v : Int32} : (mw cI ad s).set 1 (ad 1, .inl (cI, 8, .inl (upd (s 1) i v))) = mw cI ad (wr s 1 i v) := mp_a (by decide) (by decide) i v
theorem mp_2 {i : Nat} {v : Int32} : (mw cI ad s).set 2 (ad 2, .inl (cI, 8, .inl (upd (s 2) i v))) = mw cI ad (wr s 2 i v) := mp_a (by decide) (by decide) i v
theorem mp_3 {i : Nat} {v : Int32} : (mw cI ad s).set 3 (ad 3, .inl (cI, 8, .inl (upd (s 3) i v))) = mw cI ad (wr s 3 i v) := mp_a (by decide) (by decide) i v
theorem mp_4 {i : Nat} {v : Int32} : (mw cI ad s).set 4 (ad 4, .inl (cI, 8, .inl (upd (s 4) i v))) = mw cI ad (wr s 4 i v) := mp_a (by decide) (by decide) i v
theorem mp_5 {i : Nat} {v : Int32} : (mw cI ad s).set 5 (ad 5, .inl (cI, 8, .inl (upd (s 5) i v))) = mw cI ad (wr s 5 i v) := mp_a (by decide) (by decide) i v
theorem mp_6 {i : Nat} {v : Int32} : (mw cI ad s).set 6 (ad 6, .inl (cI, 8, .inl (upd (s 6) i v))) = mw cI ad (wr s 6 i v) := mp_a (by decide) (by decide) i v
theorem mp_7 {i : Nat} {v : Int32} : (mw cI ad s).set 7 (ad 7, .inl (cI, 8, .inl (upd (s 7) i v))) = mw cI ad (wr s 7 i v) := mp_a (by decide) (by decide) i v
theorem mp_8 {i : Nat} {v : Int32} : (mw cI ad s).set 8 (ad 8, .inl (cI, 48, .inl (upd (s 8) i v))) = mw cI ad (wr s 8 i v) := mp_a (by decide) (by decide) i v
theorem mp_9 {i : Nat} {v : Int32} : (mw cI ad s).set 9 (ad 9, .inl (cI, 6, .inl (upd (s 9) i v))) = mw cI ad (wr s 9 i v) := mp_a (by decide) (by decide) i v
theorem mp_10 {i : Nat} {v : Int32} : (mw cI ad s).set 10 (ad 10, .inl (cI, 6, .inl (upd (s 10) i v))) = mw cI ad (wr s 10 i v) := mp_a (by decide) (by decide) i v
theorem mp_11 {i : Nat} {v : Int32} : (mw cI ad s).set 11 (ad 11, .inl (cI, 6, .inl (upd (s 11) i v))) = mw cI ad (wr s 11 i v) := mp_a (by decide) (by decide) i v
theorem mp_12 {i : Nat} {v : Int32} : (mw cI ad s).set 12 (ad 12, .inl (cI, 40, .inl (upd (s 12) i v))) = mw cI ad (wr s 12 i v) := mp_a (by decide) (by decide) i v
end MWrows
def inA (ad : Nat → Nat) (n : Nat) : Nat → Prop := fun q => ∃ j, j < n ∧ q = ad j
theorem cw_D {cI cT cH : ClassId} {ad : Nat → Nat} {s : St} (hI : ∀ i j, i < 27 → j < 27 → ad i = ad j → i = j) : va_D (inA ad 27) (cw cI cT cH ad s) := by
  have hb : ∀ (k : Nat) (q : Nat × va_E), (cw cI cT cH ad s)[k]? = some q → k < 27 ∧ q.1 = ad k := by
    intro k q hk
    by_cases h : k < 27
    · rw [cw_at h] at hk
      obtain rfl := Option.some.inj hk
      exact ⟨h, rfl⟩
    · rw [List.getElem?_eq_none (by simpa [cw] using Nat.not_lt.mp h)] at hk
      cases hk
  refine ⟨fun i j p q h1 h2 h => ?_, fun k q hk => ⟨k, (hb k q hk).1, (hb k q hk).2⟩⟩
  obtain ⟨a1, a2⟩ := hb i p h1
  obtain ⟨b1, b2⟩ := hb j q h2
  exact hI i j a1 b1 (by rw [← a2, ← b2]; exact h)
theorem mw_D {cI : ClassId} {ad : Nat → Nat} {s : St} (hI : ∀ i j, i < 13 → j < 13 → ad i = ad j → i = j) : va_D (inA ad 13) (mw cI ad s) := by
  have hb : ∀ (k : Nat) (q : Nat × va_E), (mw cI ad s)[k]? = some q → k < 13 ∧ q.1 = ad k := by
    intro k q hk
    by_cases h : k < 13
    · rw [mw_at h] at hk
      obtain rfl := Option.some.inj hk
      exact ⟨h, rfl⟩
    · rw [List.getElem?_eq_none (by simpa [mw] using Nat.not_lt.mp h)] at hk
      cases hk
  refine ⟨fun i j p q h1 h2 h => ?_, fun k q hk => ⟨k, (hb k q hk).1, (hb k q hk).2⟩⟩
  obtain ⟨a1, a2⟩ := hb i p h1
  obtain ⟨b1, b2⟩ := hb j q h2
  exact hI i j a1 b1 (by rw [← a2, ← b2]; exact h)
-- what a state's tables and heap hold for a class method
abbrev ty9 (cI cT cH : ClassId) : List (ClassId × FieldType) := [(cI, .int), (cT, .object R_T), (cH, .object R_H)]
def nwA (U : State) : Prop := ∀ w ∈ nw9, va_Nw w U
theorem nw9_kind : ∀ w ∈ nw9, (∃ a i b n d h, w = Cond.fieldLinkNest a i b n d h) ∨ ∃ a i x h, w = Cond.methodLinkNest a i x h := by
  intro w hw
  simp only [nw9, List.mem_cons, List.not_mem_nil, or_false] at hw
  rcases hw with rfl | rfl | rfl | rfl | rfl | rfl | rfl | rfl | rfl | rfl | rfl | rfl | rfl | rfl | rfl | rfl | rfl <;> first | exact Or.inl ⟨_, _, _, _, _, _, rfl⟩ | exact Or.inr ⟨_, _, _, _, rfl⟩
theorem nwA.warm {s U : State} (hW : s.WarmedH U.vm) (h : nwA s) : nwA U := fun w hw => by
  rcases nw9_kind w hw with ⟨a, i, b, n, d, k, rfl⟩ | ⟨a, i, x, k, rfl⟩
  · exact va_Nw.warmF hW (h _ hw)
  · exact va_Nw.warmM hW (h _ hw)
theorem nwA.same {u U : State} (e : u.vm = U.vm) (h : nwA u) : nwA U := fun w hw => by
  rcases nw9_kind w hw with ⟨a, i, b, n, d, k, rfl⟩ | ⟨a, i, x, k, rfl⟩
  · exact va_Nw.same rfl e (h _ hw)
  · exact va_Nw.same rfl e (h _ hw)
def gW (D : va_G) (cI cT cH : ClassId) (ws : va_W) (U : State) : Prop := va_P D cls9 ws U.heap ∧ va_K D cls9 (ty9 cI cT cH) U ∧ nwA U
theorem gW_blind {D : va_G} {cI cT cH : ClassId} {ws : va_W} {av : List Value} : FrameBlind (va_Pc av (gW D cI cT cH ws)) := fun a U g mk q => by
  obtain ⟨q0, qP, qK, qN⟩ := q
  exact ⟨q0, qP, va_K.moved (u := U) (U := U.calling g mk a) (Vm.Alike.refl U.vm) qK, nwA.same (u := U) rfl qN⟩
theorem gW_pre {D : va_G} {cI cT cH : ClassId} {ws : va_W} {av : List Value} {s : State} {H : Heap} (hP : va_P D cls9 ws H) (hK : va_K D cls9 (ty9 cI cT cH) s) (hN : nwA s) : ∀ U : State, U.heap = H → s.WarmedH U.vm → va_Pc av (gW D cI cT cH ws) av.toArray U :=
  fun U hU hW => ⟨rfl, by rw [hU]; exact hP, va_K.moved hW.alike hK, hN.warm hW⟩
theorem gW_end {D : va_G} {cI cT cH : ClassId} {ws : va_W} {s t : State} {H : Heap} (hP : va_P D cls9 ws H) (hK : va_K D cls9 (ty9 cI cT cH) s) (hN : nwA s) (ht : t.heap = H) (hW : s.WarmedH t.vm) : gW D cI cT cH ws t :=
  ⟨by rw [ht]; exact hP, va_K.moved hW.alike hK, hN.warm hW⟩
abbrev qV (D : va_G) (ws : va_W) (A : Nat → Prop) : Array Value → State → Outcome → State → Prop := va_Qv (S := Unit) (fun _ => True) (fun _ t => va_P D cls9 ws t.heap) A
abbrev qI (D : va_G) (r0 : Int32) (ws : va_W) (A : Nat → Prop) : Array Value → State → Outcome → State → Prop := va_Qi (S := Unit) (fun r _ => r = r0) (fun _ t => va_P D cls9 ws t.heap) A
abbrev qXV (D : va_G) (f : Nat × Int32 × St) (wf : St → va_W) (A : Nat → Prop) : Array Value → State → Outcome → State → Prop := va_Qv (S := Unit) (fun _ => f.1 = 0) (fun _ t => va_P D cls9 (wf f.2.2) t.heap) A
abbrev qXI (D : va_G) (f : Nat × Int32 × St) (wf : St → va_W) (A : Nat → Prop) : Array Value → State → Outcome → State → Prop := va_Qi (S := Unit) (fun r _ => f.1 = 0 ∧ r = f.2.1) (fun _ t => va_P D cls9 (wf f.2.2) t.heap) A
abbrev eS : String := "java/lang/IllegalStateException"
abbrev eA : String := "java/lang/IllegalArgumentException"
abbrev qX (D : va_G) (f : Nat × Int32 × St) (ws : va_W) (A : Nat → Prop) : String → State → State → Prop := vx_X (S := Unit) (fun _ => True) (fun E _ t => ((f.1 = 1 ∧ E = eS) ∨ (f.1 = 2 ∧ E = eA)) ∧ va_P D cls9 ws t.heap) A
def xR (U : State) : Prop := ∀ q ∈ xS9, ∃ a, vk_R R_C q.1 q.2 a U
def xW (D : va_G) (cI cT cH : ClassId) (ws : va_W) (A : Nat → Prop) (U : State) : Prop := gW D cI cT cH ws U ∧ vx_Zq Bundle.tN "UNASSIGNED_STACK" Bundle.steD A U U.heap ∧ vx_Zq Bundle.tN "SUPPRESSED_SENTINEL" Bundle.listD A U U.heap ∧ xR U
-- the words of a call, all out of TT
theorem gV {own C : String} {i n : Nat} {y : MethodName} {b : ByteArray} {ret : Option FieldType} (h1 : Cond.methodLink own i y ∈ TT) (h2 : Cond.instanceMethod y ∈ TT) (h3 : Cond.selects C y y ∈ TT) (h4 : Cond.initialized C ∈ TT) (h5 : Cond.code y b n ret ∈ TT) : GoodIn TT (wsV own i C y (Cond.code y b n ret :: TT)) := by
  have g : ∀ w, w ∈ TT → w ∈ TT ∧ ((w.onTables && w.keeps) = true ∨ ∃ ty, w = .arrayClass ty) := fun w h => ⟨h, good_of_word (tt_good w h)⟩
  intro w hw
  simp only [wsV, List.cons_append, List.nil_append, List.mem_cons] at hw
  rcases hw with rfl | rfl | rfl | rfl | rfl | hw
  · exact g _ h1
  · exact g _ h2
  · exact g _ h3
  · exact g _ h4
  · exact g _ h5
  · exact g _ hw
section RD
variable {p : Program} {l : Launch} {e : Env} {R : Room} {s : State} {m : MethodId} {args : Array Value} {below : List Frame} {meth : Method} {c : Code} {H : Heap} {locs : List Loc} {cells slots : Nat} {Q : State → Prop}
variable {cc b : ByteArray} {nL n i na pc fr lo : Nat} {own C : String} {y : MethodName} {ret : Option FieldType} {ls : Array Slot} {rest st0 As : List Value} {r : Int32} {a : Nat}
variable {D : va_G} {cI cT cH : ClassId} {ws ws1 : va_W} {A : Nat → Prop} {H0 : Heap}
/-- a method that only reads -/
theorem rdV (hM : Met l y (Cond.code y b n ret :: TT) { frames := fr, cells := 0, slots := 0, locals := lo } (va_Pc (.ref a :: As) (gW D cI cT cH ws)) (QcRead r) 0 0 (fun _ => False)) (S : CallFix p m c cc nL s args TT own)
    (h1 : Cond.methodLink own i y ∈ TT) (h2 : Cond.instanceMethod y ∈ TT) (h3 : Cond.selects C y y ∈ TT) (h4 : Cond.initialized C ∈ TT) (h5 : Cond.code y b n ret ∈ TT)
    (hd : y.cls = C ∧ y.cls ≠ "java/lang/invoke/MethodHandle" ∧ y.cls ≠ "java/lang/invoke/VarHandle" ∧ (parseMethodDescriptor y.desc).map (fun d => d.parameters.length) = some na) (hR : fr + 1 ≤ R.frames ∧ 8 + (n + 11) + lo ≤ R.locals) (hf : cells + 0 ≤ R.cells ∧ slots + 0 ≤ R.slots)
    (hP : va_P D cls9 ws H) (hK : va_K D cls9 (ty9 cI cT cH) s) (hN : nwA s) {q0 ci : Nat} {fs : List Value} {T : u_T} {N : Nat} (he : ws[q0]? = some (a, .inr (ci, fs))) (hc : cls9[ci]? = some (C, T, N))
    (hn : As.length = na) (hsize : ls.size = nL) (hst : st0 = As.reverse ++ .ref a :: rest) (hroom : (rest.map fun v => v.category).sum ≤ 8) (hdg : decode cc pc = .ok (.invokevirtual i, 3))
    (kk : W p l e R s m args below meth c H locs cells slots Q (F0 m (pc + 3) ls (.int r :: rest))) : W p l e R s m args below meth c H locs cells slots Q (F0 m pc ls st0) := by
  obtain ⟨-, -, -, -, hts⟩ := id S
  exact W.callR (W.runV S hM (cwV na hts (gV h1 h2 h3 h4 h5) rfl rfl rfl hd hR) ⟨gW_blind, va_recv hK hP hc he, gW_pre hP hK hN⟩ (g := F0 m pc ls st0) rfl hn hsize hst (lv_room hroom) hdg hf) kk
/-- a static method that only computes -/
theorem rdS (hM : Met l y (Cond.code y b n ret :: TT) { frames := fr, cells := 0, slots := 0, locals := lo } (va_Pc As (fun _ => True)) (QcRead r) 0 0 (fun _ => False)) (S : CallFix p m c cc nL s args TT own)
    (h1 : Cond.methodLink own i y ∈ TT) (h2 : Cond.static y ∈ TT) (h4 : Cond.initialized y.cls ∈ TT) (h5 : Cond.code y b n ret ∈ TT)
    (hd : y.cls ≠ "java/lang/invoke/MethodHandle" ∧ y.cls ≠ "java/lang/invoke/VarHandle" ∧ (parseMethodDescriptor y.desc).map (fun d => d.parameters.length) = some na) (hR : fr + 1 ≤ R.frames ∧ 8 + (n + 11) + lo ≤ R.locals) (hf : cells + 0 ≤ R.cells ∧ slots + 0 ≤ R.slots)
    (hn : As.length = na) (hsize : ls.size = nL) (hst : st0 = As.reverse ++ rest) (hroom : (rest.map fun v => v.category).sum ≤ 8) (hdg : decode cc pc = .ok (.invokestatic i, 3))
    (kk : W p l e R s m args below meth c H locs cells slots Q (F0 m (pc + 3) ls (.int r :: rest))) : W p l e R s m args below meth c H locs cells slots Q (F0 m pc ls st0) := by
  obtain ⟨-, -, -, -, hts⟩ := id S
  have hG : GoodIn TT (Cond.code y b n ret :: TT) := by
    intro w hw
    rcases List.mem_cons.mp hw with rfl | hw
    · exact ⟨h5, good_of_word (tt_good _ h5)⟩
    · exact ⟨hw, good_of_word (tt_good _ hw)⟩
  exact W.callR (W.runS S hM ⟨callB_of na hts hG rfl rfl rfl (hts _ h4) (hts _ h1) hd hR, hts _ h2⟩ ⟨fun _ _ _ _ q => ⟨q.1, trivial⟩, fun _ _ _ => ⟨rfl, trivial⟩⟩ (g := F0 m pc ls st0) rfl hn hsize hst (lv_room hroom) hdg hf) kk
/-- a method without an answer that changes the world -/
theorem wcV (hM : Met l y (Cond.code y b n ret :: TT) { frames := fr, cells := 0, slots := 0, locals := lo } (va_Pc (.ref a :: As) (gW D cI cT cH ws)) (qV D ws1 A) 0 0 A) (S : CallFix p m c cc nL s args TT own)
    (h1 : Cond.methodLink own i y ∈ TT) (h2 : Cond.instanceMethod y ∈ TT) (h3 : Cond.selects C y y ∈ TT) (h4 : Cond.initialized C ∈ TT) (h5 : Cond.code y b n ret ∈ TT)
    (hd : y.cls = C ∧ y.cls ≠ "java/lang/invoke/MethodHandle" ∧ y.cls ≠ "java/lang/invoke/VarHandle" ∧ (parseMethodDescriptor y.desc).map (fun d => d.parameters.length) = some na) (hR : fr + 1 ≤ R.frames ∧ 8 + (n + 11) + lo ≤ R.locals) (hf : cells + 0 ≤ R.cells ∧ slots + 0 ≤ R.slots)
    (hP : va_P D cls9 ws H) (hK : va_K D cls9 (ty9 cI cT cH) s) (hN : nwA s) {q0 ci : Nat} {fs : List Value} {T : u_T} {N : Nat} (he : ws[q0]? = some (a, .inr (ci, fs))) (hc : cls9[ci]? = some (C, T, N)) (hS : va_S A H0 H locs)
    (hn : As.length = na) (hsize : ls.size = nL) (hst : st0 = As.reverse ++ .ref a :: rest) (hroom : (rest.map fun v => v.category).sum ≤ 8) (hdg : decode cc pc = .ok (.invokevirtual i, 3))
    (kk : ∀ (H1 : Heap) (locs1 : List Loc), va_P D cls9 ws1 H1 → va_S A H0 H1 locs1 → W p l e R s m args below meth c H1 locs1 cells slots Q (F0 m (pc + 3) ls rest)) : W p l e R s m args below meth c H locs cells slots Q (F0 m pc ls st0) := by
  obtain ⟨-, -, -, -, hts⟩ := id S
  exact va_callv (va_runV S hM (cwV na hts (gV h1 h2 h3 h4 h5) rfl rfl rfl hd hR) ⟨gW_blind, va_recv hK hP hc he, gW_pre hP hK hN⟩ (g := F0 m pc ls st0) rfl hn hsize hst (lv_room hroom) hdg hf) hS (fun _ _ h => h) (fun _ h => h)
    (fun u t H1 locs1 ht _ _ hB _ _ hS1 => kk H1 locs1 (by rw [← ht]; exact hB) hS1)
/-- a method with an answer that changes the world -/
theorem wcI {r0 : Int32} (hM : Met l y (Cond.code y b n ret :: TT) { frames := fr, cells := 0, slots := 0, locals := lo } (va_Pc (.ref a :: As) (gW D cI cT cH ws)) (qI D r0 ws1 A) 0 0 A) (S : CallFix p m c cc nL s args TT own)
    (h1 : Cond.methodLink own i y ∈ TT) (h2 : Cond.instanceMethod y ∈ TT) (h3 : Cond.selects C y y ∈ TT) (h4 : Cond.initialized C ∈ TT) (h5 : Cond.code y b n ret ∈ TT)
    (hd : y.cls = C ∧ y.cls ≠ "java/lang/invoke/MethodHandle" ∧ y.cls ≠ "java/lang/invoke/VarHandle" ∧ (parseMethodDescriptor y.desc).map (fun d => d.parameters.length) = some na) (hR : fr + 1 ≤ R.frames ∧ 8 + (n + 11) + lo ≤ R.locals) (hf : cells + 0 ≤ R.cells ∧ slots + 0 ≤ R.slots)
    (hP : va_P D cls9 ws H) (hK : va_K D cls9 (ty9 cI cT cH) s) (hN : nwA s) {q0 ci : Nat} {fs : List Value} {T : u_T} {N : Nat} (he : ws[q0]? = some (a, .inr (ci, fs))) (hc : cls9[ci]? = some (C, T, N)) (hS : va_S A H0 H locs)
    (hn : As.length = na) (hsize : ls.size = nL) (hst : st0 = As.reverse ++ .ref a :: rest) (hroom : (rest.map fun v => v.category).sum ≤ 8) (hdg : decode cc pc = .ok (.invokevirtual i, 3))
    (kk : ∀ (H1 : Heap) (locs1 : List Loc), va_P D cls9 ws1 H1 → va_S A H0 H1 locs1 → W p l e R s m args below meth c H1 locs1 cells slots Q (F0 m (pc + 3) ls (.int r0 :: rest))) : W p l e R s m args below meth c H locs cells slots Q (F0 m pc ls st0) := by
  obtain ⟨-, -, -, -, hts⟩ := id S
  exact va_calli (va_runV S hM (cwV na hts (gV h1 h2 h3 h4 h5) rfl rfl rfl hd hR) ⟨gW_blind, va_recv hK hP hc he, gW_pre hP hK hN⟩ (g := F0 m pc ls st0) rfl hn hsize hst (lv_room hroom) hdg hf) hS (fun _ _ h => h) (fun _ h => h)
    (fun r u t H1 locs1 ht _ hr hB _ _ hS1 => by subst hr; exact kk H1 locs1 (by rw [← ht]; exact hB) hS1)
end RD
-- places in range
theorem vi_lt {x : Int32} {n : Nat} (h : vp_in x n) : x.toNatClampNeg < n := Nat.lt_of_not_le fun q => h (Or.inr q)
end
section
-- what each method does, as functions of the state (printed by wip/gen/sym.py)
def f_J_floorMod (p0 : Int32) (p1 : Int32) : Int32 := if 0 ≤ (p0 ^^^ p1) then (irem p0 p1)
  else if (irem p0 p1) = 0 then (irem p0 p1)
  else ((irem p0 p1) + p1)
def f_C_isIn (p0 : Int32) (p1 : Int32) (p2 : Int32) : Int32 := if p0 < p1 then 0
  else if p2 < p0 then 0
  else 1
def f_C_isThing (p0 : Int32) : Int32 := (f_C_isIn p0 0 5)
def f_T_isDeclared (s : St) (j0 : Nat) : Int32 := if (s (5 + 2 * j0) 2) ≤ 0 then 0
  else 1
def f_T_isUserOf (s : St) (j0 : Nat) (p1 : Int32) : Int32 := if (s (5 + 2 * j0 + 1) p1.toNatClampNeg) ≤ 0 then 0
  else 1
def f_T_makeReady_S23 (s : St) (v0 : Nat) : St := wr s (5 + 2 * v0) 9 0
def f_T_makeReady_S18 (s : St) (v0 : Nat) : St := f_T_makeReady_S23 (wr s (5 + 2 * v0) 8 0) v0
def f_T_makeReady_S13 (s : St) (v0 : Nat) (v1 : Int32) : St := f_T_makeReady_S18 (wr s (5 + 2 * v0) 6 v1) v0
def f_T_makeReady_S5 (s : St) (v0 : Nat) (v1 : Int32) : St := f_T_makeReady_S13 (wr s (5 + 2 * v0) 5 (s (5 + 2 * v0) 0)) v0 v1
def f_T_makeReady (s : St) (j0 : Nat) (p1 : Int32) : St := f_T_makeReady_S5 (wr s (5 + 2 * j0) 4 1) j0 p1
def f_T_goesBefore (s : St) (j0 : Nat) (j1 : Nat) : Int32 := if (s (5 + 2 * j1) 5) < (s (5 + 2 * j0) 5) then 1
  else if (s (5 + 2 * j0) 5) = (s (5 + 2 * j1) 5) then (if (s (5 + 2 * j1) 6) ≤ (s (5 + 2 * j0) 6) then 0
    else 1)
  else 0
def f_T_demandIn (s : St) (j0 : Nat) (p1 : Int32) : Int32 := if (f_T_isDeclared s j0) = 0 then 0
  else ((s (5 + 2 * j0) 1) * (((p1 + (s (5 + 2 * j0) 2)) - 1) / (s (5 + 2 * j0) 2)))
def f_N_write_S38 (s : St) : St := wr s 3 1 ((s 3 1) + 1)
def f_N_write (s : St) (p1 : Int32) (p2 : Int32) (p3 : Int32) (p4 : Int32) : St := f_N_write_S38 (wr s 4 (f_J_floorMod (s 3 1) 40).toNatClampNeg ((((4096 * (f_J_floorMod p4 65536)) + (256 * p3)) + (16 * p2)) + p1))
def f_N_fromLatest (s : St) (p1 : Int32) : Int32 := if p1 < 0 then (-1)
  else if 40 ≤ p1 then (-1)
  else if p1 < (s 3 1) then (s 4 (f_J_floorMod (((s 3 1) - 1) - p1) 40).toNatClampNeg)
  else (-1)
def f_C_isDeclared (s : St) (p1 : Int32) : Int32 := if (f_C_isIn p1 0 7) = 0 then 0
  else if (f_T_isDeclared s p1.toNatClampNeg) = 0 then 0
  else 1
def f_C_isReady (s : St) (p1 : Int32) : Int32 := if (f_C_isIn p1 0 7) = 0 then 0
  else if (s (5 + 2 * p1.toNatClampNeg) 4) = 0 then 0
  else 1
def f_C_isHeld (s : St) (p1 : Int32) : Int32 := if (f_C_isThing p1) = 0 then 0
  else if (s (21 + p1.toNatClampNeg) 1) = (-1) then 0
  else 1
def f_C_countDeclared_L4 : Nat → Nat → St → Int32 → Int32
  | 0, i, s, v1 => v1
  | n + 1, i, s, v1 => if (f_T_isDeclared s i) = 0 then f_C_countDeclared_L4 n (i + 1) s v1
      else f_C_countDeclared_L4 n (i + 1) s (v1 + 1)
def f_C_countDeclared (s : St) : Int32 := f_C_countDeclared_L4 8 0 s 0
def f_C_greatestBaseOfUsers_L4 : Nat → Nat → St → Int32 → Int32 → Int32
  | 0, i, s, v1, v2 => v2
  | n + 1, i, s, v1, v2 => if (f_T_isUserOf s i v1) = 0 then f_C_greatestBaseOfUsers_L4 n (i + 1) s v1 v2
      else f_C_greatestBaseOfUsers_L4 n (i + 1) s v1 (imax v2 (s (5 + 2 * i) 0))
def f_C_greatestBaseOfUsers (s : St) (p1 : Int32) : Int32 := f_C_greatestBaseOfUsers_L4 8 0 s p1 0
def f_C_mostUrgent_L4 : Nat → Nat → St → Int32 → Int32
  | 0, i, s, v1 => v1
  | n + 1, i, s, v1 => if (s (5 + 2 * i) 4) = 0 then f_C_mostUrgent_L4 n (i + 1) s v1
      else if v1 = (-1) then f_C_mostUrgent_L4 n (i + 1) s (nI i)
      else if (f_T_goesBefore s i v1.toNatClampNeg) = 0 then f_C_mostUrgent_L4 n (i + 1) s v1
      else f_C_mostUrgent_L4 n (i + 1) s (nI i)
def f_C_mostUrgent (s : St) : Int32 := f_C_mostUrgent_L4 8 0 s (-1)
def f_C_happened_B53 (s : St) (x1 : Int32) (x2 : Int32) : St := f_N_write s x1 x2 15 (s 0 4)
def f_C_happened_S35 (s : St) (v4 : Int32) : St := if v4 = (-1) then f_C_happened_B53 s 5 8
  else f_C_happened_B53 s 5 v4
def f_C_happened_S14 (s : St) : St := if (f_C_mostUrgent s) = (s 0 6) then s
  else f_C_happened_S35 (wr s 0 6 (f_C_mostUrgent s)) (f_C_mostUrgent s)
def f_C_happened (s : St) (p1 : Int32) (p2 : Int32) (p3 : Int32) : St := f_C_happened_S14 (f_N_write s p1 p2 p3 (s 0 4))
def f_C_delayMoreUrgentThan_L2 : Nat → Nat → St → Int32 → Int32 → St
  | 0, i, s, v1, v2 => s
  | n + 1, i, s, v1, v2 => if (s (5 + 2 * i) 4) = 0 then f_C_delayMoreUrgentThan_L2 n (i + 1) s v1 v2
      else if (s (5 + 2 * i) 0) ≤ v1 then f_C_delayMoreUrgentThan_L2 n (i + 1) s v1 v2
      else f_C_delayMoreUrgentThan_L2 n (i + 1) (wr s (5 + 2 * i) 9 ((s (5 + 2 * i) 9) + v2)) v1 v2
def f_C_delayMoreUrgentThan (s : St) (p1 : Int32) (p2 : Int32) : St := f_C_delayMoreUrgentThan_L2 8 0 s p1 p2
def f_C_longestUseOfCeiling_L5 : Nat → Nat → St → Nat → Int32 → Int32 → Int32
  | 0, i, s, v1, v2, v3 => v3
  | n + 1, i, s, v1, v2, v3 => if (s (21 + i) 0) < v2 then f_C_longestUseOfCeiling_L5 n (i + 1) s v1 v2 v3
      else f_C_longestUseOfCeiling_L5 n (i + 1) s v1 v2 (imax v3 (s (5 + 2 * v1 + 1) i))
def f_C_longestUseOfCeiling (s : St) (j1 : Nat) (p2 : Int32) : Int32 := f_C_longestUseOfCeiling_L5 6 0 s j1 p2 0
def f_C_longestBlockingAt_L4 : Nat → Nat → St → Int32 → Int32 → Int32
  | 0, i, s, v1, v2 => v2
  | n + 1, i, s, v1, v2 => if v1 ≤ (s (5 + 2 * i) 0) then f_C_longestBlockingAt_L4 n (i + 1) s v1 v2
      else f_C_longestBlockingAt_L4 n (i + 1) s v1 (imax v2 (f_C_longestUseOfCeiling s i v1))
def f_C_longestBlockingAt (s : St) (p1 : Int32) : Int32 := f_C_longestBlockingAt_L4 8 0 s p1 0
def f_C_demandOfOthers_L5 : Nat → Nat → St → Int32 → Int32 → Int32 → Int32
  | 0, i, s, v1, v2, v3 => v3
  | n + 1, i, s, v1, v2, v3 => if (nI i) = v1 then f_C_demandOfOthers_L5 n (i + 1) s v1 v2 v3
      else if (s (5 + 2 * i) 0) < (s (5 + 2 * v1.toNatClampNeg) 0) then f_C_demandOfOthers_L5 n (i + 1) s v1 v2 v3
      else f_C_demandOfOthers_L5 n (i + 1) s v1 v2 (v3 + (f_T_demandIn s i v2))
def f_C_demandOfOthers (s : St) (p1 : Int32) (p2 : Int32) : Int32 := f_C_demandOfOthers_L5 8 0 s p1 p2 0
def f_C_declare_S97 (s : St) (v4 : Int32) (v5 : Nat) : Nat × Int32 × St := (0, 0, wr s (5 + 2 * v5) 2 v4)
def f_C_declare_S91 (s : St) (v3 : Int32) (v4 : Int32) (v5 : Nat) : Nat × Int32 × St := f_C_declare_S97 (wr s (5 + 2 * v5) 1 v3) v4 v5
def f_C_declare (s : St) (p1 : Int32) (p2 : Int32) (p3 : Int32) (p4 : Int32) : Nat × Int32 × St := if (s 0 3) = 0 then (if (f_C_isDeclared s p1) = 0 then (if (f_C_isIn p1 0 7) = 0 then (2, 0, s)
      else if (f_C_isIn p2 1 16) = 0 then (2, 0, s)
      else if (f_C_isIn p3 1 50) = 0 then (2, 0, s)
      else if (f_C_isIn p4 1 200) = 0 then (2, 0, s)
      else f_C_declare_S91 (wr s (5 + 2 * p1.toNatClampNeg) 0 p2) p3 p4 p1.toNatClampNeg)
    else (1, 0, s))
  else (1, 0, s)
def f_C_mayUse (s : St) (p1 : Int32) (p2 : Int32) (p3 : Int32) : Nat × Int32 × St := if (s 0 3) = 0 then (if (f_C_isDeclared s p1) = 0 then (2, 0, s)
    else if (f_C_isThing p2) = 0 then (2, 0, s)
    else if (f_C_isIn p3 1 50) = 0 then (2, 0, s)
    else (0, 0, wr s (5 + 2 * p1.toNatClampNeg + 1) p2.toNatClampNeg p3))
  else (1, 0, s)
def f_C_seal_L24 : Nat → Nat → St → Nat × Int32 × St
  | 0, i, s => (0, (f_C_countDeclared s), s)
  | n + 1, i, s => f_C_seal_L24 n (i + 1) (wr s (21 + i) 0 (f_C_greatestBaseOfUsers s (nI i)))
def f_C_seal_S22 (s : St) : Nat × Int32 × St := f_C_seal_L24 6 0 s
def f_C_seal (s : St) : Nat × Int32 × St := if (s 0 3) = 0 then f_C_seal_S22 (wr s 0 3 1)
  else (1, 0, s)
def f_C_release_S74 (s : St) : Nat × Int32 × St := (0, (s 0 5), s)
def f_C_release_S66 (s : St) (v1 : Int32) : Nat × Int32 × St := f_C_release_S74 (f_C_happened s 1 v1 15)
def f_C_release_S53 (s : St) (v1 : Int32) : Nat × Int32 × St := f_C_release_S66 (f_T_makeReady s v1.toNatClampNeg (s 0 5)) v1
def f_C_release (s : St) (p1 : Int32) : Nat × Int32 × St := if (s 0 3) = 0 then (1, 0, s)
  else if (f_C_isReady s p1) = 0 then (if (f_C_isDeclared s p1) = 0 then (2, 0, s)
    else f_C_release_S53 (wr s 0 5 ((s 0 5) + 1)) p1)
  else (1, 0, s)
def f_C_take_S137 (s : St) (v2 : Nat) : Nat × Int32 × St := (0, (s (5 + 2 * v2) 5), s)
def f_C_take_S127 (s : St) (v1 : Int32) (v2 : Nat) : Nat × Int32 × St := f_C_take_S137 (f_C_happened s 2 (s 0 6) v1) v2
def f_C_take_S112 (s : St) (v1 : Int32) (v2 : Nat) (v3 : Nat) : Nat × Int32 × St := f_C_take_S127 (wr s (5 + 2 * v2) 5 (imax (s (5 + 2 * v2) 5) (s (21 + v3) 0))) v1 v2
def f_C_take_S107 (s : St) (v1 : Int32) (v2 : Nat) (v3 : Nat) : Nat × Int32 × St := f_C_take_S112 (wr s (5 + 2 * v2) 7 v1) v1 v2 v3
def f_C_take_S99 (s : St) (v1 : Int32) (v2 : Nat) (v3 : Nat) : Nat × Int32 × St := f_C_take_S107 (wr s (21 + v3) 3 (s (5 + 2 * v2) 5)) v1 v2 v3
def f_C_take_S91 (s : St) (v1 : Int32) (v2 : Nat) (v3 : Nat) : Nat × Int32 × St := f_C_take_S99 (wr s (21 + v3) 2 (s (5 + 2 * v2) 7)) v1 v2 v3
def f_C_take (s : St) (p1 : Int32) : Nat × Int32 × St := if (s 0 3) = 0 then (1, 0, s)
  else if (s 0 6) = (-1) then (1, 0, s)
  else if (f_C_isHeld s p1) = 0 then (if (f_C_isThing p1) = 0 then (2, 0, s)
    else if (f_T_isUserOf s ((s 0 6).toNatClampNeg) p1) = 0 then (2, 0, s)
    else f_C_take_S91 (wr s (21 + p1.toNatClampNeg) 1 (s 0 6)) p1 ((s 0 6).toNatClampNeg) p1.toNatClampNeg)
  else (1, 0, s)
def f_C_give_S99 (s : St) (v2 : Nat) : Nat × Int32 × St := (0, (s (5 + 2 * v2) 5), s)
def f_C_give_S89 (s : St) (v1 : Int32) (v2 : Nat) : Nat × Int32 × St := f_C_give_S99 (f_C_happened s 3 (s 0 6) v1) v2
def f_C_give_S84 (s : St) (v1 : Int32) (v2 : Nat) (v3 : Nat) : Nat × Int32 × St := f_C_give_S89 (wr s (21 + v3) 1 (-1)) v1 v2
def f_C_give_S76 (s : St) (v1 : Int32) (v2 : Nat) (v3 : Nat) : Nat × Int32 × St := f_C_give_S84 (wr s (5 + 2 * v2) 5 (s (21 + v3) 3)) v1 v2 v3
def f_C_give (s : St) (p1 : Int32) : Nat × Int32 × St := if (s 0 6) = (-1) then (1, 0, s)
  else if (f_C_isThing p1) = 0 then (2, 0, s)
  else if (s (5 + 2 * (s 0 6).toNatClampNeg) 7) = p1 then f_C_give_S76 (wr s (5 + 2 * (s 0 6).toNatClampNeg) 7 (s (21 + p1.toNatClampNeg) 2)) p1 ((s 0 6).toNatClampNeg) p1.toNatClampNeg
  else (2, 0, s)
def f_C_finish_S60 (s : St) (v1 : Nat) : Nat × Int32 × St := (0, (s (5 + 2 * v1) 8), s)
def f_C_finish_S49 (s : St) (v1 : Nat) : Nat × Int32 × St := f_C_finish_S60 (f_C_happened s 4 (s 0 6) 15) v1
def f_C_finish (s : St) : Nat × Int32 × St := if (s 0 6) = (-1) then (1, 0, s)
  else if (s (5 + 2 * (s 0 6).toNatClampNeg) 7) = (-1) then f_C_finish_S49 (wr s (5 + 2 * (s 0 6).toNatClampNeg) 4 0) ((s 0 6).toNatClampNeg)
  else (1, 0, s)
def f_C_pass_S73 (s : St) : Nat × Int32 × St := (0, (s 0 4), s)
def f_C_pass_S56 (s : St) (v1 : Int32) : Nat × Int32 × St := f_C_pass_S73 (f_C_delayMoreUrgentThan s (s (5 + 2 * (s 0 6).toNatClampNeg) 0) v1)
def f_C_pass_S30 (s : St) (v1 : Int32) : Nat × Int32 × St := if (s 0 6) = (-1) then (0, (s 0 4), s)
  else f_C_pass_S56 (wr s (5 + 2 * (s 0 6).toNatClampNeg) 8 ((s (5 + 2 * (s 0 6).toNatClampNeg) 8) + v1)) v1
def f_C_pass (s : St) (p1 : Int32) : Nat × Int32 × St := if (f_C_isIn p1 0 100) = 0 then (2, 0, s)
  else f_C_pass_S30 (wr s 0 4 ((s 0 4) + p1)) p1
def f_C_running (s : St) : Int32 := (s 0 6)
def f_C_priority (s : St) (p1 : Int32) : Int32 := if (f_C_isDeclared s p1) = 0 then (-1)
  else if (s (5 + 2 * p1.toNatClampNeg) 4) = 0 then (s (5 + 2 * p1.toNatClampNeg) 0)
  else (s (5 + 2 * p1.toNatClampNeg) 5)
def f_C_place_L14 : Nat → Nat → St → Int32 → Int32 → Int32
  | 0, i, s, v1, v2 => v2
  | n + 1, i, s, v1, v2 => if (s (5 + 2 * i) 4) = 0 then f_C_place_L14 n (i + 1) s v1 v2
      else if (f_T_goesBefore s i v1.toNatClampNeg) = 0 then f_C_place_L14 n (i + 1) s v1 v2
      else f_C_place_L14 n (i + 1) s v1 (v2 + 1)
def f_C_place (s : St) (p1 : Int32) : Int32 := if (f_C_isReady s p1) = 0 then (-1)
  else f_C_place_L14 8 0 s p1 0
def f_C_ceiling (s : St) (p1 : Int32) : Int32 := if (s 0 3) = 0 then (-1)
  else if (f_C_isThing p1) = 0 then (-1)
  else (s (21 + p1.toNatClampNeg) 0)
def f_C_holder (s : St) (p1 : Int32) : Int32 := if (f_C_isThing p1) = 0 then (-1)
  else (s (21 + p1.toNatClampNeg) 1)
def f_C_spent (s : St) (p1 : Int32) (p2 : Int32) : Int32 := if (f_C_isDeclared s p1) = 0 then 0
  else if p2 = 0 then (s (5 + 2 * p1.toNatClampNeg) 8)
  else if p2 = 1 then (s (5 + 2 * p1.toNatClampNeg) 9)
  else 0
def f_C_blocking (s : St) (p1 : Int32) : Int32 := if (s 0 3) = 0 then (-1)
  else if (f_C_isDeclared s p1) = 0 then (-1)
  else (f_C_longestBlockingAt s (s (5 + 2 * p1.toNatClampNeg) 0))
def f_C_response_L43 : Nat → Nat → St → Int32 → Int32 → Int32
  | 0, i, s, v1, v2 => (-1)
  | n + 1, i, s, v1, v2 => if (v2 + (f_C_demandOfOthers s v1 (nI i))) = (nI i) then (nI i)
      else f_C_response_L43 n (i + 1) s v1 v2
def f_C_response (s : St) (p1 : Int32) : Int32 := if (s 0 3) = 0 then (-1)
  else if (f_C_isDeclared s p1) = 0 then (-1)
  else f_C_response_L43 (s (5 + 2 * p1.toNatClampNeg) 2).toNatClampNeg 1 s p1 ((s (5 + 2 * p1.toNatClampNeg) 1) + (f_C_longestBlockingAt s (s (5 + 2 * p1.toNatClampNeg) 0)))
def f_C_notes (s : St) : Int32 := (s 3 1)
def f_C_note (s : St) (p1 : Int32) : Int32 := (f_N_fromLatest s p1)
def f_M_thrown (s : St) : Int32 := (s 0 0)
def f_M_refuses_S21 (s : St) : Int32 × St := if (s 0 0) ≤ 0 then (0, s)
  else (1, s)
def f_M_refuses_B18 (s : St) (x1 : Int32) : Int32 × St := f_M_refuses_S21 (wr s 0 0 x1)
def f_M_refuses (s : St) (p1 : Int32) (p2 : Int32) : Int32 × St := if p1 = 0 then (if p2 = 0 then f_M_refuses_B18 s 0
    else f_M_refuses_B18 s 2)
  else f_M_refuses_B18 s 1
def f_M_isTask (p0 : Int32) : Int32 := if p0 < 0 then 0
  else if 8 ≤ p0 then 0
  else 1
def f_M_isThing (p0 : Int32) : Int32 := if p0 < 0 then 0
  else if 6 ≤ p0 then 0
  else 1
def f_M_isDeclared (s : St) (p1 : Int32) : Int32 := if (f_M_isTask p1) = 0 then 0
  else if (s 1 p1.toNatClampNeg) ≤ 0 then 0
  else 1
def f_M_isReady (s : St) (p1 : Int32) : Int32 := if (f_M_isTask p1) = 0 then 0
  else if (s 4 p1.toNatClampNeg) ≤ 0 then 0
  else 1
def f_M_declare_S102 (s : St) (v1 : Int32) (v2 : Int32) : St := wr s 5 v1.toNatClampNeg v2
def f_M_declare_S94 (s : St) (v1 : Int32) (v2 : Int32) (v4 : Int32) : St := f_M_declare_S102 (wr s 3 v1.toNatClampNeg v4) v1 v2
def f_M_declare_S87 (s : St) (v1 : Int32) (v2 : Int32) (v3 : Int32) (v4 : Int32) : St := f_M_declare_S94 (wr s 2 v1.toNatClampNeg v3) v1 v2 v4
def f_M_declare_S76 (s : St) (x0 : Int32) (v1 : Int32) (v2 : Int32) (v3 : Int32) (v4 : Int32) : St := if x0 = 0 then f_M_declare_S87 (wr s 1 v1.toNatClampNeg v2) v1 v2 v3 v4
  else s
def f_M_declare_B71 (s : St) (x1 : Int32) (v1 : Int32) (v2 : Int32) (v3 : Int32) (v4 : Int32) (v5 : Int32) : St := f_M_declare_S76 ((f_M_refuses s x1 v5).2) ((f_M_refuses s x1 v5).1) v1 v2 v3 v4
def f_M_declare_B66 (s : St) (v1 : Int32) (v2 : Int32) (v3 : Int32) (v4 : Int32) (v5 : Int32) : St := f_M_declare_B71 s 1 v1 v2 v3 v4 v5
def f_M_declare_B48 (s : St) (x0 : Int32) (v1 : Int32) (v2 : Int32) (v3 : Int32) (v4 : Int32) : St := if (s 0 1) = 0 then (if (f_M_isDeclared s v1) = 0 then f_M_declare_B71 s 0 v1 v2 v3 v4 x0
    else f_M_declare_B66 s v1 v2 v3 v4 x0)
  else f_M_declare_B66 s v1 v2 v3 v4 x0
def f_M_declare_B43 (s : St) (v1 : Int32) (v2 : Int32) (v3 : Int32) (v4 : Int32) : St := f_M_declare_B48 s 1 v1 v2 v3 v4
def f_M_declare (s : St) (p1 : Int32) (p2 : Int32) (p3 : Int32) (p4 : Int32) : St := if (f_M_isTask p1) = 0 then f_M_declare_B43 s p1 p2 p3 p4
  else if p2 < 1 then f_M_declare_B43 s p1 p2 p3 p4
  else if 16 < p2 then f_M_declare_B43 s p1 p2 p3 p4
  else if p3 < 1 then f_M_declare_B43 s p1 p2 p3 p4
  else if 50 < p3 then f_M_declare_B43 s p1 p2 p3 p4
  else if p4 < 1 then f_M_declare_B43 s p1 p2 p3 p4
  else if p4 ≤ 200 then f_M_declare_B48 s 0 p1 p2 p3 p4
  else f_M_declare_B43 s p1 p2 p3 p4
def f_M_mayUse_S39 (s : St) (x0 : Int32) (v1 : Int32) (v2 : Int32) (v3 : Int32) : St := if x0 = 0 then wr s 8 ((6 * v1) + v2).toNatClampNeg v3
  else s
def f_M_mayUse_B36 (s : St) (x1 : Int32) (x2 : Int32) (v1 : Int32) (v2 : Int32) (v3 : Int32) : St := f_M_mayUse_S39 ((f_M_refuses s x1 x2).2) ((f_M_refuses s x1 x2).1) v1 v2 v3
def f_M_mayUse_B31 (s : St) (x1 : Int32) (v1 : Int32) (v2 : Int32) (v3 : Int32) : St := f_M_mayUse_B36 s x1 1 v1 v2 v3
def f_M_mayUse (s : St) (p1 : Int32) (p2 : Int32) (p3 : Int32) : St := if (f_M_isDeclared s p1) = 0 then f_M_mayUse_B31 s (s 0 1) p1 p2 p3
  else if (f_M_isThing p2) = 0 then f_M_mayUse_B31 s (s 0 1) p1 p2 p3
  else if p3 < 1 then f_M_mayUse_B31 s (s 0 1) p1 p2 p3
  else if p3 ≤ 50 then f_M_mayUse_B36 s (s 0 1) 0 p1 p2 p3
  else f_M_mayUse_B31 s (s 0 1) p1 p2 p3
def f_M_seal_L23 : Nat → Nat → St → Int32 → Int32 × St
  | 0, i, s, v1 => (v1, s)
  | n + 1, i, s, v1 => if (s 1 i) ≤ 0 then f_M_seal_L23 n (i + 1) s (v1 + 0)
      else f_M_seal_L23 n (i + 1) s (v1 + 1)
def f_M_seal_S19 (s : St) : Int32 × St := f_M_seal_L23 8 0 s 0
def f_M_seal_S9 (s : St) (x0 : Int32) : Int32 × St := if x0 = 0 then f_M_seal_S19 (wr s 0 1 1)
  else (0, s)
def f_M_seal (s : St) : Int32 × St := f_M_seal_S9 ((f_M_refuses s (s 0 1) 0).2) ((f_M_refuses s (s 0 1) 0).1)
def f_M_isFirst (s : St) (p1 : Int32) (p2 : Int32) : Int32 := if (s 5 p2.toNatClampNeg) < (s 5 p1.toNatClampNeg) then 1
  else if (s 5 p1.toNatClampNeg) = (s 5 p2.toNatClampNeg) then (if (s 4 p2.toNatClampNeg) ≤ (s 4 p1.toNatClampNeg) then 0
    else 1)
  else 0
def f_M_runner_L4 : Nat → Nat → St → Int32 → Int32
  | 0, i, s, v1 => v1
  | n + 1, i, s, v1 => if (s 4 i) ≤ 0 then f_M_runner_L4 n (i + 1) s v1
      else if v1 = (-1) then f_M_runner_L4 n (i + 1) s (nI i)
      else if (f_M_isFirst s (nI i) v1) = 0 then f_M_runner_L4 n (i + 1) s v1
      else f_M_runner_L4 n (i + 1) s (nI i)
def f_M_runner (s : St) : Int32 := f_M_runner_L4 8 0 s (-1)
def f_M_add_S36 (s : St) : St := wr s 0 16 ((s 0 16) + 1)
def f_M_add (s : St) (p1 : Int32) (p2 : Int32) (p3 : Int32) : St := f_M_add_S36 (wr s 12 (irem (s 0 16) 40).toNatClampNeg (((((irem (s 0 2) 65536) * 4096) + (256 * p3)) + (16 * p2)) + p1))
def f_M_tell_B35 (s : St) (x1 : Int32) (x2 : Int32) : St := f_M_add s x1 x2 15
def f_M_tell_S7 (s : St) (v4 : Int32) : St := if (f_M_runner s) = v4 then s
  else if (f_M_runner s) = (-1) then f_M_tell_B35 s 5 8
  else f_M_tell_B35 s 5 (f_M_runner s)
def f_M_tell (s : St) (p1 : Int32) (p2 : Int32) (p3 : Int32) (p4 : Int32) : St := f_M_tell_S7 (f_M_add s p1 p2 p3) p4
def f_M_release_S102 (s : St) : Int32 × St := ((s 0 3), s)
def f_M_release_S93 (s : St) (v1 : Int32) (v2 : Int32) : Int32 × St := f_M_release_S102 (f_M_tell s 1 v1 15 v2)
def f_M_release_S86 (s : St) (v1 : Int32) (v2 : Int32) : Int32 × St := f_M_release_S93 (wr s 7 v1.toNatClampNeg 0) v1 v2
def f_M_release_S79 (s : St) (v1 : Int32) (v2 : Int32) : Int32 × St := f_M_release_S86 (wr s 6 v1.toNatClampNeg 0) v1 v2
def f_M_release_S67 (s : St) (v1 : Int32) (v2 : Int32) : Int32 × St := f_M_release_S79 (wr s 5 v1.toNatClampNeg (s 1 v1.toNatClampNeg)) v1 v2
def f_M_release_S57 (s : St) (v1 : Int32) (v2 : Int32) : Int32 × St := f_M_release_S67 (wr s 4 v1.toNatClampNeg (s 0 3)) v1 v2
def f_M_release_S37 (s : St) (x0 : Int32) (v1 : Int32) : Int32 × St := if x0 = 0 then f_M_release_S57 (wr s 0 3 ((s 0 3) + 1)) v1 (f_M_runner s)
  else (0, s)
def f_M_release_B34 (s : St) (x1 : Int32) (x2 : Int32) (v1 : Int32) : Int32 × St := f_M_release_S37 ((f_M_refuses s x1 x2).2) ((f_M_refuses s x1 x2).1) v1
def f_M_release_B21 (s : St) (x1 : Int32) (v1 : Int32) : Int32 × St := if (f_M_isDeclared s v1) = 0 then f_M_release_B34 s x1 1 v1
  else f_M_release_B34 s x1 0 v1
def f_M_release_B16 (s : St) (v1 : Int32) : Int32 × St := f_M_release_B21 s 1 v1
def f_M_release (s : St) (p1 : Int32) : Int32 × St := if (s 0 1) = 0 then f_M_release_B16 s p1
  else if (f_M_isReady s p1) = 0 then f_M_release_B21 s 0 p1
  else f_M_release_B16 s p1
def f_M_top_L4 : Nat → Nat → St → Int32 → Int32 → Int32
  | 0, i, s, v1, v2 => v2
  | n + 1, i, s, v1, v2 => if (s 8 ((6 * (nI i)) + v1).toNatClampNeg) ≤ 0 then f_M_top_L4 n (i + 1) s v1 v2
      else if (s 1 i) ≤ v2 then f_M_top_L4 n (i + 1) s v1 v2
      else f_M_top_L4 n (i + 1) s v1 (s 1 i)
def f_M_top (s : St) (p1 : Int32) : Int32 := f_M_top_L4 8 0 s p1 0
def f_M_take_S183 (s : St) (v2 : Int32) : Int32 × St := ((s 5 v2.toNatClampNeg), s)
def f_M_take_S175 (s : St) (v1 : Int32) (v2 : Int32) : Int32 × St := f_M_take_S183 (f_M_tell s 2 v2 v1 v2) v2
def f_M_take_B174 (s : St) (x1 : Int32) (x2 : Int32) (v1 : Int32) (v2 : Int32) : Int32 × St := f_M_take_S175 (wr s 5 x1.toNatClampNeg x2) v1 v2
def f_M_take_S140 (s : St) (v1 : Int32) (v2 : Int32) : Int32 × St := if (f_M_top s v1) ≤ (s 5 v2.toNatClampNeg) then f_M_take_B174 s v2 (s 5 v2.toNatClampNeg) v1 v2
  else f_M_take_B174 s v2 (f_M_top s v1) v1 v2
def f_M_take_S128 (s : St) (v1 : Int32) (v2 : Int32) : Int32 × St := f_M_take_S140 (wr s 10 v1.toNatClampNeg (s 5 v2.toNatClampNeg)) v1 v2
def f_M_take_S121 (s : St) (v1 : Int32) (v2 : Int32) : Int32 × St := f_M_take_S128 (wr s 9 v1.toNatClampNeg v2) v1 v2
def f_M_take_S111 (s : St) (v1 : Int32) (v2 : Int32) : Int32 × St := f_M_take_S121 (wr s 11 v1.toNatClampNeg (s 0 15)) v1 v2
def f_M_take_S96 (s : St) (x0 : Int32) (v1 : Int32) (v2 : Int32) : Int32 × St := if x0 = 0 then f_M_take_S111 (wr s 0 15 ((s 0 15) + 1)) v1 v2
  else (0, s)
def f_M_take_B93 (s : St) (x1 : Int32) (x2 : Int32) (v1 : Int32) (v2 : Int32) : Int32 × St := f_M_take_S96 ((f_M_refuses s x1 x2).2) ((f_M_refuses s x1 x2).1) v1 v2
def f_M_take_B83 (s : St) (x1 : Int32) (v1 : Int32) (v2 : Int32) (v4 : Int32) : Int32 × St := if v4 = 0 then f_M_take_B93 s x1 1 v1 v2
  else f_M_take_B93 s x1 0 v1 v2
def f_M_take_B78 (s : St) (v1 : Int32) (v2 : Int32) (v4 : Int32) : Int32 × St := f_M_take_B83 s 1 v1 v2 v4
def f_M_take_B59 (s : St) (x0 : Int32) (v1 : Int32) (v2 : Int32) (v3 : Int32) : Int32 × St := if (s 0 1) = 0 then f_M_take_B78 s v1 v2 x0
  else if v2 = (-1) then f_M_take_B78 s v1 v2 x0
  else if v3 = 0 then f_M_take_B83 s 0 v1 v2 x0
  else f_M_take_B78 s v1 v2 x0
def f_M_take_B58 (s : St) (v1 : Int32) (v2 : Int32) (v3 : Int32) : Int32 × St := f_M_take_B59 s 0 v1 v2 v3
def f_M_take_B27 (s : St) (x0 : Int32) (v1 : Int32) (v2 : Int32) : Int32 × St := if (f_M_isThing v1) = 0 then f_M_take_B58 s v1 v2 x0
  else if v2 = (-1) then f_M_take_B58 s v1 v2 x0
  else if (s 8 ((6 * v2) + v1).toNatClampNeg) ≤ 0 then f_M_take_B58 s v1 v2 x0
  else f_M_take_B59 s 1 v1 v2 x0
def f_M_take_B26 (s : St) (v1 : Int32) (v2 : Int32) : Int32 × St := f_M_take_B27 s 0 v1 v2
def f_M_take (s : St) (p1 : Int32) : Int32 × St := if (f_M_isThing p1) = 0 then f_M_take_B26 s p1 (f_M_runner s)
  else if (s 9 p1.toNatClampNeg) = (-1) then f_M_take_B26 s p1 (f_M_runner s)
  else f_M_take_B27 s 1 p1 (f_M_runner s)
def f_M_latest_L4 : Nat → Nat → St → Int32 → Int32 → Int32
  | 0, i, s, v1, v2 => v2
  | n + 1, i, s, v1, v2 => if (s 9 i) = v1 then (if v2 = (-1) then f_M_latest_L4 n (i + 1) s v1 (nI i)
        else if (s 11 i) ≤ (s 11 v2.toNatClampNeg) then f_M_latest_L4 n (i + 1) s v1 v2
        else f_M_latest_L4 n (i + 1) s v1 (nI i))
      else f_M_latest_L4 n (i + 1) s v1 v2
def f_M_latest (s : St) (p1 : Int32) : Int32 := f_M_latest_L4 6 0 s p1 (-1)
def f_M_give_S79 (s : St) (v2 : Int32) : Int32 × St := ((s 5 v2.toNatClampNeg), s)
def f_M_give_S71 (s : St) (v1 : Int32) (v2 : Int32) : Int32 × St := f_M_give_S79 (f_M_tell s 3 v2 v1 v2) v2
def f_M_give_S59 (s : St) (v1 : Int32) (v2 : Int32) : Int32 × St := f_M_give_S71 (wr s 5 v2.toNatClampNeg (s 10 v1.toNatClampNeg)) v1 v2
def f_M_give_S47 (s : St) (x0 : Int32) (v1 : Int32) (v2 : Int32) : Int32 × St := if x0 = 0 then f_M_give_S59 (wr s 9 v1.toNatClampNeg (-1)) v1 v2
  else (0, s)
def f_M_give_B44 (s : St) (x1 : Int32) (x2 : Int32) (v1 : Int32) (v2 : Int32) : Int32 × St := f_M_give_S47 ((f_M_refuses s x1 x2).2) ((f_M_refuses s x1 x2).1) v1 v2
def f_M_give_B39 (s : St) (x1 : Int32) (v1 : Int32) (v2 : Int32) : Int32 × St := f_M_give_B44 s x1 1 v1 v2
def f_M_give_B16 (s : St) (x1 : Int32) (v1 : Int32) (v2 : Int32) : Int32 × St := if v2 = (-1) then f_M_give_B39 s x1 v1 v2
  else if (f_M_latest s v2) = (-1) then f_M_give_B39 s x1 v1 v2
  else if (f_M_latest s v2) = v1 then f_M_give_B44 s x1 0 v1 v2
  else f_M_give_B39 s x1 v1 v2
def f_M_give (s : St) (p1 : Int32) : Int32 × St := if (f_M_runner s) = (-1) then f_M_give_B16 s 1 p1 (f_M_runner s)
  else f_M_give_B16 s 0 p1 (f_M_runner s)
def f_M_finish_S62 (s : St) (v1 : Int32) : Int32 × St := ((s 6 v1.toNatClampNeg), s)
def f_M_finish_S53 (s : St) (v1 : Int32) : Int32 × St := f_M_finish_S62 (f_M_tell s 4 v1 15 v1) v1
def f_M_finish_S41 (s : St) (v1 : Int32) : Int32 × St := f_M_finish_S53 (wr s 5 v1.toNatClampNeg (s 1 v1.toNatClampNeg)) v1
def f_M_finish_S29 (s : St) (x0 : Int32) (v1 : Int32) : Int32 × St := if x0 = 0 then f_M_finish_S41 (wr s 4 v1.toNatClampNeg 0) v1
  else (0, s)
def f_M_finish_B25 (s : St) (x1 : Int32) (v1 : Int32) : Int32 × St := f_M_finish_S29 ((f_M_refuses s x1 0).2) ((f_M_refuses s x1 0).1) v1
def f_M_finish_B20 (s : St) (v1 : Int32) : Int32 × St := f_M_finish_B25 s 1 v1
def f_M_finish (s : St) : Int32 × St := if (f_M_runner s) = (-1) then f_M_finish_B20 s (f_M_runner s)
  else if (f_M_latest s (f_M_runner s)) = (-1) then f_M_finish_B25 s 0 (f_M_runner s)
  else f_M_finish_B20 s (f_M_runner s)
def f_M_pass_L42 : Nat → Nat → St → Int32 → Int32 → Int32 × St
  | 0, i, s, v1, v2 => ((s 0 2), s)
  | n + 1, i, s, v1, v2 => if v2 = (-1) then ((s 0 2), s)
      else if (nI i) = v2 then (if ((wr s 6 i ((s 6 i) + v1)) 4 i) ≤ 0 then f_M_pass_L42 n (i + 1) (wr (wr s 6 i ((s 6 i) + v1)) 7 i (((wr s 6 i ((s 6 i) + v1)) 7 i) + 0)) v1 v2
        else if ((wr s 6 i ((s 6 i) + v1)) 1 i) ≤ ((wr s 6 i ((s 6 i) + v1)) 1 v2.toNatClampNeg) then f_M_pass_L42 n (i + 1) (wr (wr s 6 i ((s 6 i) + v1)) 7 i (((wr s 6 i ((s 6 i) + v1)) 7 i) + 0)) v1 v2
        else f_M_pass_L42 n (i + 1) (wr (wr s 6 i ((s 6 i) + v1)) 7 i (((wr s 6 i ((s 6 i) + v1)) 7 i) + v1)) v1 v2)
      else if ((wr s 6 i ((s 6 i) + 0)) 4 i) ≤ 0 then f_M_pass_L42 n (i + 1) (wr (wr s 6 i ((s 6 i) + 0)) 7 i (((wr s 6 i ((s 6 i) + 0)) 7 i) + 0)) v1 v2
      else if ((wr s 6 i ((s 6 i) + 0)) 1 i) ≤ ((wr s 6 i ((s 6 i) + 0)) 1 v2.toNatClampNeg) then f_M_pass_L42 n (i + 1) (wr (wr s 6 i ((s 6 i) + 0)) 7 i (((wr s 6 i ((s 6 i) + 0)) 7 i) + 0)) v1 v2
      else f_M_pass_L42 n (i + 1) (wr (wr s 6 i ((s 6 i) + 0)) 7 i (((wr s 6 i ((s 6 i) + 0)) 7 i) + v1)) v1 v2
def f_M_pass_S40 (s : St) (v1 : Int32) (v2 : Int32) : Int32 × St := f_M_pass_L42 8 0 s v1 v2
def f_M_pass_S20 (s : St) (x0 : Int32) (v1 : Int32) : Int32 × St := if x0 = 0 then f_M_pass_S40 (wr s 0 2 ((s 0 2) + v1)) v1 (f_M_runner s)
  else (0, s)
def f_M_pass_B16 (s : St) (x1 : Int32) (v1 : Int32) : Int32 × St := f_M_pass_S20 ((f_M_refuses s x1 0).2) ((f_M_refuses s x1 0).1) v1
def f_M_pass_B11 (s : St) (v1 : Int32) : Int32 × St := f_M_pass_B16 s 1 v1
def f_M_pass (s : St) (p1 : Int32) : Int32 × St := if p1 < 0 then f_M_pass_B11 s p1
  else if p1 ≤ 100 then f_M_pass_B16 s 0 p1
  else f_M_pass_B11 s p1
def f_M_running_S5 (s : St) : Int32 × St := ((f_M_runner s), s)
def f_M_running (s : St) : Int32 × St := f_M_running_S5 (wr s 0 0 0)
def f_M_priority_S5 (s : St) (v1 : Int32) : Int32 × St := if (f_M_isDeclared s v1) = 0 then ((-1), s)
  else ((s 5 v1.toNatClampNeg), s)
def f_M_priority (s : St) (p1 : Int32) : Int32 × St := f_M_priority_S5 (wr s 0 0 0) p1
def f_M_place_L19 : Nat → Nat → St → Int32 → Int32 → Int32 × St
  | 0, i, s, v1, v2 => (v2, s)
  | n + 1, i, s, v1, v2 => if (s 4 i) ≤ 0 then f_M_place_L19 n (i + 1) s v1 (v2 + 0)
      else if (nI i) = v1 then f_M_place_L19 n (i + 1) s v1 (v2 + 0)
      else if (f_M_isFirst s (nI i) v1) = 0 then f_M_place_L19 n (i + 1) s v1 (v2 + 0)
      else f_M_place_L19 n (i + 1) s v1 (v2 + 1)
def f_M_place_S5 (s : St) (v1 : Int32) : Int32 × St := if (f_M_isReady s v1) = 0 then ((-1), s)
  else f_M_place_L19 8 0 s v1 0
def f_M_place (s : St) (p1 : Int32) : Int32 × St := f_M_place_S5 (wr s 0 0 0) p1
def f_M_ceiling_S5 (s : St) (v1 : Int32) : Int32 × St := if (s 0 1) = 0 then ((-1), s)
  else if (f_M_isThing v1) = 0 then ((-1), s)
  else ((f_M_top s v1), s)
def f_M_ceiling (s : St) (p1 : Int32) : Int32 × St := f_M_ceiling_S5 (wr s 0 0 0) p1
def f_M_holder_S5 (s : St) (v1 : Int32) : Int32 × St := if (f_M_isThing v1) = 0 then ((-1), s)
  else ((s 9 v1.toNatClampNeg), s)
def f_M_holder (s : St) (p1 : Int32) : Int32 × St := f_M_holder_S5 (wr s 0 0 0) p1
def f_M_spent_S5 (s : St) (v1 : Int32) (v2 : Int32) : Int32 × St := if (f_M_isDeclared s v1) = 0 then (0, s)
  else if v2 = 0 then ((s 6 v1.toNatClampNeg), s)
  else if v2 = 1 then ((s 7 v1.toNatClampNeg), s)
  else (0, s)
def f_M_spent (s : St) (p1 : Int32) (p2 : Int32) : Int32 × St := f_M_spent_S5 (wr s 0 0 0) p1 p2
def f_M_longest_L4 : Nat → Nat → St → Int32 → Int32 → Int32
  | 0, i, s, v1, v2 => v2
  | n + 1, i, s, v1, v2 => if (s 1 v1.toNatClampNeg) ≤ (s 1 ((nI i) / 6).toNatClampNeg) then f_M_longest_L4 n (i + 1) s v1 v2
      else if (s 8 i) ≤ 0 then f_M_longest_L4 n (i + 1) s v1 v2
      else if (f_M_top s (irem (nI i) 6)) < (s 1 v1.toNatClampNeg) then f_M_longest_L4 n (i + 1) s v1 v2
      else if (s 8 i) ≤ v2 then f_M_longest_L4 n (i + 1) s v1 v2
      else f_M_longest_L4 n (i + 1) s v1 (s 8 i)
def f_M_longest (s : St) (p1 : Int32) : Int32 := f_M_longest_L4 48 0 s p1 0
def f_M_blocking_S5 (s : St) (v1 : Int32) : Int32 × St := if (s 0 1) = 0 then ((-1), s)
  else if (f_M_isDeclared s v1) = 0 then ((-1), s)
  else ((f_M_longest s v1), s)
def f_M_blocking (s : St) (p1 : Int32) : Int32 × St := f_M_blocking_S5 (wr s 0 0 0) p1
def f_M_load_L16 : Nat → Nat → St → Int32 → Int32 → Int32 → Int32
  | 0, i, s, v1, v2, v3 => v3
  | n + 1, i, s, v1, v2, v3 => if (nI i) = v1 then f_M_load_L16 n (i + 1) s v1 v2 (v3 + 0)
      else if (s 1 i) ≤ 0 then f_M_load_L16 n (i + 1) s v1 v2 (v3 + 0)
      else if (s 1 i) < (s 1 v1.toNatClampNeg) then f_M_load_L16 n (i + 1) s v1 v2 (v3 + 0)
      else f_M_load_L16 n (i + 1) s v1 v2 (v3 + ((((v2 + (s 3 i)) - 1) / (s 3 i)) * (s 2 i)))
def f_M_load (s : St) (p1 : Int32) (p2 : Int32) : Int32 := f_M_load_L16 8 0 s p1 p2 ((s 2 p1.toNatClampNeg) + (f_M_longest s p1))
def f_M_response_L24 : Nat → Nat → St → Int32 → Int32 × St
  | 0, i, s, v1 => ((-1), s)
  | n + 1, i, s, v1 => if (f_M_load s v1 (nI i)) = (nI i) then ((nI i), s)
      else f_M_response_L24 n (i + 1) s v1
def f_M_response_S5 (s : St) (v1 : Int32) : Int32 × St := if (s 0 1) = 0 then ((-1), s)
  else if (f_M_isDeclared s v1) = 0 then ((-1), s)
  else f_M_response_L24 (s 3 v1.toNatClampNeg).toNatClampNeg 1 s v1
def f_M_response (s : St) (p1 : Int32) : Int32 × St := f_M_response_S5 (wr s 0 0 0) p1
def f_M_notes_S5 (s : St) : Int32 × St := ((s 0 16), s)
def f_M_notes (s : St) : Int32 × St := f_M_notes_S5 (wr s 0 0 0)
def f_M_note_S5 (s : St) (v1 : Int32) : Int32 × St := if v1 < 0 then ((-1), s)
  else if 40 ≤ v1 then ((-1), s)
  else if v1 < (s 0 16) then ((s 12 (irem (((s 0 16) - 1) - v1) 40).toNatClampNeg), s)
  else ((-1), s)
def f_M_note (s : St) (p1 : Int32) : Int32 × St := f_M_note_S5 (wr s 0 0 0) p1
end
section
-- places in range, what small methods say
theorem i32_lt {a b : Int32} : a < b ↔ a.toInt < b.toInt := Int32.lt_iff_toInt_lt
theorem i32_le {a b : Int32} : a ≤ b ↔ a.toInt ≤ b.toInt := Int32.le_iff_toInt_le
theorem i32_pos {x : Int32} (h : ¬ x ≤ 0) : 0 < x := by
  rw [i32_le, show (0 : Int32).toInt = 0 from rfl] at h
  rw [i32_lt, show (0 : Int32).toInt = 0 from rfl]
  omega
theorem vi_rg {x k : Int32} {n : Nat} (h1 : ¬ x < 0) (h2 : ¬ k < x) (hk : k.toInt + 1 = n) : vp_in x n := by
  rw [i32_lt, show (0 : Int32).toInt = 0 from rfl] at h1
  rw [i32_lt] at h2
  exact vp_in_iff.mpr ⟨by omega, by omega⟩
theorem vi_rg2 {x k : Int32} {n : Nat} (h1 : ¬ x < 0) (h2 : ¬ k ≤ x) (hk : k.toInt = n) : vp_in x n := by
  rw [i32_lt, show (0 : Int32).toInt = 0 from rfl] at h1
  rw [i32_le] at h2
  exact vp_in_iff.mpr ⟨by omega, by omega⟩
theorem vi_isIn {x k : Int32} {n : Nat} (hk : k.toInt + 1 = n) (h : ¬ f_C_isIn x 0 k = 0) : vp_in x n := by
  unfold f_C_isIn at h
  by_cases h1 : x < 0
  · rw [if_pos h1] at h
    exact absurd rfl h
  · by_cases h2 : k < x
    · rw [if_neg h1, if_pos h2] at h
      exact absurd rfl h
    · exact vi_rg h1 h2 hk
theorem vi_isIn7 {x : Int32} (h : ¬ f_C_isIn x 0 7 = 0) : vp_in x 8 := vi_isIn (by decide) h
theorem vi_isThing {x : Int32} (h : ¬ f_C_isThing x = 0) : vp_in x 6 := vi_isIn (k := 5) (by decide) h
theorem vi_decl {st : St} {x : Int32} (h : ¬ f_C_isDeclared st x = 0) : vp_in x 8 := by
  by_cases h0 : f_C_isIn x 0 7 = 0
  · exact absurd (by rw [f_C_isDeclared, if_pos h0]) h
  · exact vi_isIn7 h0
theorem vi_ready {st : St} {x : Int32} (h : ¬ f_C_isReady st x = 0) : vp_in x 8 := by
  by_cases h0 : f_C_isIn x 0 7 = 0
  · exact absurd (by rw [f_C_isReady, if_pos h0]) h
  · exact vi_isIn7 h0
theorem vi_run {x : Int32} {n : Nat} (h : ¬ x = (-1)) (g : x = (-1) ∨ vp_in x n) : vp_in x n := g.resolve_left h
theorem vi_mTask {x : Int32} (h : ¬ f_M_isTask x = 0) : vp_in x 8 := by
  unfold f_M_isTask at h
  by_cases h1 : x < 0
  · rw [if_pos h1] at h
    exact absurd rfl h
  · by_cases h2 : 8 ≤ x
    · rw [if_neg h1, if_pos h2] at h
      exact absurd rfl h
    · exact vi_rg2 h1 h2 (by decide)
theorem vi_mThing {x : Int32} (h : ¬ f_M_isThing x = 0) : vp_in x 6 := by
  unfold f_M_isThing at h
  by_cases h1 : x < 0
  · rw [if_pos h1] at h
    exact absurd rfl h
  · by_cases h2 : 6 ≤ x
    · rw [if_neg h1, if_pos h2] at h
      exact absurd rfl h
    · exact vi_rg2 h1 h2 (by decide)
theorem vi_mdecl {st : St} {x : Int32} (h : ¬ f_M_isDeclared st x = 0) : vp_in x 8 := by
  by_cases h0 : f_M_isTask x = 0
  · exact absurd (by rw [f_M_isDeclared, if_pos h0]) h
  · exact vi_mTask h0
theorem vi_mready {st : St} {x : Int32} (h : ¬ f_M_isReady st x = 0) : vp_in x 8 := by
  by_cases h0 : f_M_isTask x = 0
  · exact absurd (by rw [f_M_isReady, if_pos h0]) h
  · exact vi_mTask h0
theorem vi_six1 {i : Nat} {b : Int32} (hi : i < 8) (hb : vp_in b 6) : vp_in (6 * nI i + b) 48 := by
  obtain ⟨j, hj, rfl⟩ := vp_in_of hb (by decide)
  rw [show (6 : Int32) = nI 6 from rfl, pk_mul, nI_add]
  exact vp_in_nI (by omega) (by decide)
theorem vi_six {a b : Int32} (ha : vp_in a 8) (hb : vp_in b 6) : vp_in (6 * a + b) 48 := by
  obtain ⟨i, hi, rfl⟩ := vp_in_of ha (by decide)
  exact vi_six1 hi hb
theorem vi_d6 {i : Nat} (h : i < 48) : vp_in (nI i / 6) 8 := by
  rw [show (6 : Int32) = nI 6 from rfl, pk_div (by omega) (by decide) (by decide)]
  exact vp_in_nI (by omega) (by decide)
theorem irem_nI {a d : Nat} (ha : a < 2 ^ 31) (h0 : 0 < d) (hd : d < 2 ^ 31) : irem (nI a) (nI d) = nI (a % d) := pk_rem ha h0 hd
theorem vi_r6 {i : Nat} (h : i < 48) : vp_in (irem (nI i) 6) 6 := by
  rw [show (6 : Int32) = nI 6 from rfl, irem_nI (by omega) (by decide) (by decide)]
  exact vp_in_nI (by omega) (by decide)
theorem vi_mnote {k m : Int32} (h0 : ¬ k < 0) (h1 : k < m) : vp_in (irem ((m - 1) - k) 40) 40 := by
  have hm : ¬ m < 0 := by
    intro h2
    refine h0 ?_
    rw [i32_lt] at *
    omega
  obtain ⟨a, ha, rfl⟩ := nI_of h0
  obtain ⟨b, hb, rfl⟩ := nI_of hm
  have hab : a < b := (nI_ltI ha hb).mp h1
  rw [show (1 : Int32) = nI 1 from rfl, pk_sub (by omega), pk_sub (by omega), show (40 : Int32) = nI 40 from rfl, irem_nI (by omega) (by decide) (by decide)]
  exact vp_in_nI (Nat.mod_lt _ (by decide)) (by decide)
theorem vi_ne0 {st : St} {j : Nat} (h : ¬ f_T_isDeclared st j = 0) : ¬ st (5 + 2 * j) 2 = 0 := fun e => h (by rw [f_T_isDeclared, e]; rfl)
theorem i32_msb {z : Int32} : 0 ≤ z ↔ z.toBitVec.msb = false := by
  rw [i32_le, show (0 : Int32).toInt = 0 from rfl, BitVec.msb_eq_toInt]
  show 0 ≤ z.toBitVec.toInt ↔ _
  simp
theorem i32_xor40 {r : Int32} : 0 ≤ (r ^^^ 40) ↔ 0 ≤ r := by
  rw [i32_msb, i32_msb, Int32.toBitVec_xor, BitVec.msb_xor, show (40 : Int32).toBitVec.msb = false from rfl, Bool.xor_false]
theorem i32_xor65536 {r : Int32} : 0 ≤ (r ^^^ 65536) ↔ 0 ≤ r := by
  rw [i32_msb, i32_msb, Int32.toBitVec_xor, BitVec.msb_xor, show (65536 : Int32).toBitVec.msb = false from rfl, Bool.xor_false]
theorem fm_gen {x k : Int32} (hx : 0 ≤ (x ^^^ k) ↔ 0 ≤ x) : f_J_floorMod x k = fmv x k := by
  have hr : (irem x k).toInt = x.toInt.tmod k.toInt := rem_toInt x k
  show (if 0 ≤ (x ^^^ k) then irem x k else if irem x k = 0 then irem x k else irem x k + k) = if 0 ≤ irem x k then irem x k else irem x k + k
  by_cases h : 0 ≤ x
  · have h1 : 0 ≤ irem x k := by
      rw [i32_le, show (0 : Int32).toInt = 0 from rfl] at h
      rw [i32_le, hr, show (0 : Int32).toInt = 0 from rfl]
      exact Int.tmod_nonneg _ h
    rw [if_pos (hx.mpr h), if_pos h1]
  · rw [if_neg (fun q => h (hx.mp q))]
    by_cases h0 : irem x k = 0
    · rw [if_pos h0, if_pos (by rw [h0]; exact Int32.le_refl 0)]
    · have h1 : ¬ 0 ≤ irem x k := by
        intro q
        refine h0 (Int32.toInt_inj.mp ?_)
        rw [i32_le, show (0 : Int32).toInt = 0 from rfl] at h
        rw [i32_le, hr, show (0 : Int32).toInt = 0 from rfl] at q
        have h2 := Int.tmod_nonneg k.toInt (a := -x.toInt) (by omega)
        rw [Int.neg_tmod] at h2
        rw [hr, show (0 : Int32).toInt = 0 from rfl]
        omega
      rw [if_neg h0, if_neg h1]
theorem fm_40 (x : Int32) : f_J_floorMod x 40 = fmv x 40 := fm_gen i32_xor40
theorem fm_65536 (x : Int32) : f_J_floorMod x 65536 = fmv x 65536 := fm_gen i32_xor65536
theorem vi_fmod40 (x : Int32) : vp_in (f_J_floorMod x 40) 40 := by
  rw [fm_40]
  have h := fmv_bounds (a := x) (m := 40) (by decide)
  exact vp_in_iff.mpr ⟨h.1, h.2⟩
-- the reference's 'refuses'
theorem ref_wr (s : St) (a b : Int32) : ∃ v, (f_M_refuses s a b).2 = wr s 0 0 v := by
  have h : ∀ x, (f_M_refuses_B18 s x).2 = wr s 0 0 x := fun x => by
    unfold f_M_refuses_B18 f_M_refuses_S21
    split <;> rfl
  unfold f_M_refuses
  split
  · split
    · exact ⟨_, h _⟩
    · exact ⟨_, h _⟩
  · exact ⟨_, h _⟩
theorem ref_at {s : St} {a b : Int32} {c k : Nat} (h : ¬ (c = 0 ∧ k = 0)) : (f_M_refuses s a b).2 c k = s c k := by
  obtain ⟨v, e⟩ := ref_wr s a b
  rw [e]
  exact wr_ne h
theorem ref_B (s : St) (x : Int32) : (f_M_refuses_B18 s x).1 = if x ≤ 0 then 0 else 1 := by
  unfold f_M_refuses_B18 f_M_refuses_S21
  rw [wr_eq]
  split <;> rfl
theorem vi_ref1 {s : St} {a b : Int32} (h : (f_M_refuses s a b).1 = 0) : a = 0 := by
  by_cases h1 : a = 0
  · exact h1
  · rw [f_M_refuses, if_neg h1, ref_B] at h
    exact absurd h (by decide)
theorem vi_ref2 {s : St} {a b : Int32} (h : (f_M_refuses s a b).1 = 0) : b = 0 := by
  by_cases h1 : a = 0
  · by_cases h2 : b = 0
    · exact h2
    · rw [f_M_refuses, if_pos h1, if_neg h2, ref_B] at h
      exact absurd h (by decide)
  · rw [f_M_refuses, if_neg h1, ref_B] at h
    exact absurd h (by decide)
-- what the reference's searches find
theorem vi_runnerL (s : St) : ∀ (n i : Nat) (v : Int32), i + n = 8 → (v = (-1) ∨ vp_in v 8) → (f_M_runner_L4 n i s v = (-1) ∨ vp_in (f_M_runner_L4 n i s v) 8) := by
  intro n
  induction n with
  | zero =>
    intro i v _ hv
    rw [f_M_runner_L4]
    exact hv
  | succ n ih =>
    intro i v hi hv
    have hn : nI i = (-1) ∨ vp_in (nI i) 8 := Or.inr (vp_in_nI (by omega) (by decide))
    rw [f_M_runner_L4]
    split
    · exact ih _ _ (by omega) hv
    · split
      · exact ih _ _ (by omega) hn
      · split
        · exact ih _ _ (by omega) hv
        · exact ih _ _ (by omega) hn
theorem vi_runner (s : St) : f_M_runner s = (-1) ∨ vp_in (f_M_runner s) 8 := vi_runnerL s 8 0 (-1) rfl (Or.inl rfl)
theorem vi_latestL (s : St) (r : Int32) : ∀ (n i : Nat) (v : Int32), i + n = 6 → (v = (-1) ∨ vp_in v 6) → (f_M_latest_L4 n i s r v = (-1) ∨ vp_in (f_M_latest_L4 n i s r v) 6) := by
  intro n
  induction n with
  | zero =>
    intro i v _ hv
    rw [f_M_latest_L4]
    exact hv
  | succ n ih =>
    intro i v hi hv
    have hn : nI i = (-1) ∨ vp_in (nI i) 6 := Or.inr (vp_in_nI (by omega) (by decide))
    rw [f_M_latest_L4]
    split
    · split
      · exact ih _ _ (by omega) hn
      · split
        · exact ih _ _ (by omega) hv
        · exact ih _ _ (by omega) hn
    · exact ih _ _ (by omega) hv
theorem vi_latest {s : St} {r k : Int32} (h : ¬ f_M_latest s r = (-1)) (e : f_M_latest s r = k) : vp_in k 6 := by
  rw [← e]
  exact (vi_latestL s r 6 0 (-1) rfl (Or.inl rfl)).resolve_left h
-- a loop's own test
theorem nlt_6 {i : Nat} (h : i < 6) : ¬ (6 : Int32) ≤ nI i := nI_ge h (by decide)
theorem nlt_8 {i : Nat} (h : i < 8) : ¬ (8 : Int32) ≤ nI i := nI_ge h (by decide)
theorem nlt_48 {i : Nat} (h : i < 48) : ¬ (48 : Int32) ≤ nI i := nI_ge h (by decide)
theorem rs_lt {x : Int32} {i : Nat} (h : i + 0 = x.toNatClampNeg + 1) (hb : x.toNatClampNeg < 1000) : x < nI i := by
  have e : x.toNatClampNeg = x.toInt.toNat := rfl
  rw [i32_lt, nI_toInt (by omega)]
  omega
theorem rs_ge {x : Int32} {i n : Nat} (h : i + (n + 1) = x.toNatClampNeg + 1) (h1 : 1 ≤ i) (hb : x.toNatClampNeg < 1000) : ¬ x < nI i := by
  have e : x.toNatClampNeg = x.toInt.toNat := rfl
  rw [i32_lt, nI_toInt (by omega)]
  omega
theorem nb_isIn (a b c : Int32) : narrow .boolean (.int (f_C_isIn a b c)) = .int (f_C_isIn a b c) := by
  unfold f_C_isIn
  split
  · rfl
  · split <;> rfl
end
section
-- decode rows of the class
theorem d_C_init_0 : decode b_C_init 0 = .ok (.aload_n 0, 1) := by decide +kernel
theorem d_C_init_1 : decode b_C_init 1 = .ok (.invokespecial 1, 3) := by decide +kernel
theorem d_C_init_4 : decode b_C_init 4 = .ok (.aload_n 0, 1) := by decide +kernel
theorem d_C_init_5 : decode b_C_init 5 = .ok (.bipush 8, 2) := by decide +kernel
theorem d_C_init_7 : decode b_C_init 7 = .ok (.anewarray 9, 3) := by decide +kernel
theorem d_C_init_10 : decode b_C_init 10 = .ok (.putfield 11, 3) := by decide +kernel
theorem d_C_init_13 : decode b_C_init 13 = .ok (.aload_n 0, 1) := by decide +kernel
theorem d_C_init_14 : decode b_C_init 14 = .ok (.bipush 6, 2) := by decide +kernel
theorem d_C_init_16 : decode b_C_init 16 = .ok (.anewarray 15, 3) := by decide +kernel
theorem d_C_init_19 : decode b_C_init 19 = .ok (.putfield 17, 3) := by decide +kernel
theorem d_C_init_22 : decode b_C_init 22 = .ok (.aload_n 0, 1) := by decide +kernel
theorem d_C_init_23 : decode b_C_init 23 = .ok (.new 21, 3) := by decide +kernel
theorem d_C_init_26 : decode b_C_init 26 = .ok (.dup, 1) := by decide +kernel
theorem d_C_init_27 : decode b_C_init 27 = .ok (.invokespecial 23, 3) := by decide +kernel
theorem d_C_init_30 : decode b_C_init 30 = .ok (.putfield 24, 3) := by decide +kernel
theorem d_C_init_33 : decode b_C_init 33 = .ok (.aload_n 0, 1) := by decide +kernel
theorem d_C_init_34 : decode b_C_init 34 = .ok (.iconst 0, 1) := by decide +kernel
theorem d_C_init_35 : decode b_C_init 35 = .ok (.putfield 28, 3) := by decide +kernel
theorem d_C_init_38 : decode b_C_init 38 = .ok (.aload_n 0, 1) := by decide +kernel
theorem d_C_init_39 : decode b_C_init 39 = .ok (.iconst 0, 1) := by decide +kernel
theorem d_C_init_40 : decode b_C_init 40 = .ok (.putfield 32, 3) := by decide +kernel
theorem d_C_init_43 : decode b_C_init 43 = .ok (.aload_n 0, 1) := by decide +kernel
theorem d_C_init_44 : decode b_C_init 44 = .ok (.iconst 0, 1) := by decide +kernel
theorem d_C_init_45 : decode b_C_init 45 = .ok (.putfield 36, 3) := by decide +kernel
theorem d_C_init_48 : decode b_C_init 48 = .ok (.aload_n 0, 1) := by decide +kernel
theorem d_C_init_49 : decode b_C_init 49 = .ok (.iconst (-1), 1) := by decide +kernel
theorem d_C_init_50 : decode b_C_init 50 = .ok (.putfield 39, 3) := by decide +kernel
theorem d_C_init_53 : decode b_C_init 53 = .ok (.iconst 0, 1) := by decide +kernel
theorem d_C_init_54 : decode b_C_init 54 = .ok (.istore_n 1, 1) := by decide +kernel
theorem d_C_init_55 : decode b_C_init 55 = .ok (.iload_n 1, 1) := by decide +kernel
theorem d_C_init_56 : decode b_C_init 56 = .ok (.bipush 8, 2) := by decide +kernel
theorem d_C_init_58 : decode b_C_init 58 = .ok (.if_icmp .ge 22, 3) := by decide +kernel
theorem d_C_init_61 : decode b_C_init 61 = .ok (.aload_n 0, 1) := by decide +kernel
theorem d_C_init_62 : decode b_C_init 62 = .ok (.getfield 11, 3) := by decide +kernel
theorem d_C_init_65 : decode b_C_init 65 = .ok (.iload_n 1, 1) := by decide +kernel
theorem d_C_init_66 : decode b_C_init 66 = .ok (.new 9, 3) := by decide +kernel
theorem d_C_init_69 : decode b_C_init 69 = .ok (.dup, 1) := by decide +kernel
theorem d_C_init_70 : decode b_C_init 70 = .ok (.invokespecial 42, 3) := by decide +kernel
theorem d_C_init_73 : decode b_C_init 73 = .ok (.aastore, 1) := by decide +kernel
theorem d_C_init_74 : decode b_C_init 74 = .ok (.iinc 1 1, 3) := by decide +kernel
theorem d_C_init_77 : decode b_C_init 77 = .ok (.goto (-22), 3) := by decide +kernel
theorem d_C_init_80 : decode b_C_init 80 = .ok (.iconst 0, 1) := by decide +kernel
theorem d_C_init_81 : decode b_C_init 81 = .ok (.istore_n 1, 1) := by decide +kernel
theorem d_C_init_82 : decode b_C_init 82 = .ok (.iload_n 1, 1) := by decide +kernel
theorem d_C_init_83 : decode b_C_init 83 = .ok (.bipush 6, 2) := by decide +kernel
theorem d_C_init_85 : decode b_C_init 85 = .ok (.if_icmp .ge 22, 3) := by decide +kernel
theorem d_C_init_88 : decode b_C_init 88 = .ok (.aload_n 0, 1) := by decide +kernel
theorem d_C_init_89 : decode b_C_init 89 = .ok (.getfield 17, 3) := by decide +kernel
theorem d_C_init_92 : decode b_C_init 92 = .ok (.iload_n 1, 1) := by decide +kernel
theorem d_C_init_93 : decode b_C_init 93 = .ok (.new 15, 3) := by decide +kernel
theorem d_C_init_96 : decode b_C_init 96 = .ok (.dup, 1) := by decide +kernel
theorem d_C_init_97 : decode b_C_init 97 = .ok (.invokespecial 43, 3) := by decide +kernel
theorem d_C_init_100 : decode b_C_init 100 = .ok (.aastore, 1) := by decide +kernel
theorem d_C_init_101 : decode b_C_init 101 = .ok (.iinc 1 1, 3) := by decide +kernel
theorem d_C_init_104 : decode b_C_init 104 = .ok (.goto (-22), 3) := by decide +kernel
theorem d_C_init_107 : decode b_C_init 107 = .ok (.return_, 1) := by decide +kernel
theorem d_C_declare_0 : decode b_C_declare 0 = .ok (.aload_n 0, 1) := by decide +kernel
theorem d_C_declare_1 : decode b_C_declare 1 = .ok (.getfield 28, 3) := by decide +kernel
theorem d_C_declare_4 : decode b_C_declare 4 = .ok (.ifCond .ne 11, 3) := by decide +kernel
theorem d_C_declare_7 : decode b_C_declare 7 = .ok (.aload_n 0, 1) := by decide +kernel
theorem d_C_declare_8 : decode b_C_declare 8 = .ok (.iload_n 1, 1) := by decide +kernel
theorem d_C_declare_9 : decode b_C_declare 9 = .ok (.invokevirtual 44, 3) := by decide +kernel
theorem d_C_declare_12 : decode b_C_declare 12 = .ok (.ifCond .eq 13, 3) := by decide +kernel
theorem d_C_declare_15 : decode b_C_declare 15 = .ok (.new 48, 3) := by decide +kernel
theorem d_C_declare_18 : decode b_C_declare 18 = .ok (.dup, 1) := by decide +kernel
theorem d_C_declare_19 : decode b_C_declare 19 = .ok (.ldc 50, 2) := by decide +kernel
theorem d_C_declare_21 : decode b_C_declare 21 = .ok (.invokespecial 52, 3) := by decide +kernel
theorem d_C_declare_24 : decode b_C_declare 24 = .ok (.athrow, 1) := by decide +kernel
theorem d_C_declare_25 : decode b_C_declare 25 = .ok (.iload_n 1, 1) := by decide +kernel
theorem d_C_declare_26 : decode b_C_declare 26 = .ok (.iconst 0, 1) := by decide +kernel
theorem d_C_declare_27 : decode b_C_declare 27 = .ok (.bipush 7, 2) := by decide +kernel
theorem d_C_declare_29 : decode b_C_declare 29 = .ok (.invokestatic 55, 3) := by decide +kernel
theorem d_C_declare_32 : decode b_C_declare 32 = .ok (.ifCond .eq 35, 3) := by decide +kernel
theorem d_C_declare_35 : decode b_C_declare 35 = .ok (.iload_n 2, 1) := by decide +kernel
theorem d_C_declare_36 : decode b_C_declare 36 = .ok (.iconst 1, 1) := by decide +kernel
theorem d_C_declare_37 : decode b_C_declare 37 = .ok (.bipush 16, 2) := by decide +kernel
theorem d_C_declare_39 : decode b_C_declare 39 = .ok (.invokestatic 55, 3) := by decide +kernel
theorem d_C_declare_42 : decode b_C_declare 42 = .ok (.ifCond .eq 25, 3) := by decide +kernel
theorem d_C_declare_45 : decode b_C_declare 45 = .ok (.iload_n 3, 1) := by decide +kernel
theorem d_C_declare_46 : decode b_C_declare 46 = .ok (.iconst 1, 1) := by decide +kernel
theorem d_C_declare_47 : decode b_C_declare 47 = .ok (.bipush 50, 2) := by decide +kernel
theorem d_C_declare_49 : decode b_C_declare 49 = .ok (.invokestatic 55, 3) := by decide +kernel
theorem d_C_declare_52 : decode b_C_declare 52 = .ok (.ifCond .eq 15, 3) := by decide +kernel
theorem d_C_declare_55 : decode b_C_declare 55 = .ok (.iload 4, 2) := by decide +kernel
theorem d_C_declare_57 : decode b_C_declare 57 = .ok (.iconst 1, 1) := by decide +kernel
theorem d_C_declare_58 : decode b_C_declare 58 = .ok (.sipush 200, 3) := by decide +kernel
theorem d_C_declare_61 : decode b_C_declare 61 = .ok (.invokestatic 55, 3) := by decide +kernel
theorem d_C_declare_64 : decode b_C_declare 64 = .ok (.ifCond .ne 13, 3) := by decide +kernel
theorem d_C_declare_67 : decode b_C_declare 67 = .ok (.new 59, 3) := by decide +kernel
theorem d_C_declare_70 : decode b_C_declare 70 = .ok (.dup, 1) := by decide +kernel
theorem d_C_declare_71 : decode b_C_declare 71 = .ok (.ldc 61, 2) := by decide +kernel
theorem d_C_declare_73 : decode b_C_declare 73 = .ok (.invokespecial 63, 3) := by decide +kernel
theorem d_C_declare_76 : decode b_C_declare 76 = .ok (.athrow, 1) := by decide +kernel
theorem d_C_declare_77 : decode b_C_declare 77 = .ok (.aload_n 0, 1) := by decide +kernel
theorem d_C_declare_78 : decode b_C_declare 78 = .ok (.getfield 11, 3) := by decide +kernel
theorem d_C_declare_81 : decode b_C_declare 81 = .ok (.iload_n 1, 1) := by decide +kernel
theorem d_C_declare_82 : decode b_C_declare 82 = .ok (.aaload, 1) := by decide +kernel
theorem d_C_declare_83 : decode b_C_declare 83 = .ok (.astore 5, 2) := by decide +kernel
theorem d_C_declare_85 : decode b_C_declare 85 = .ok (.aload 5, 2) := by decide +kernel
theorem d_C_declare_87 : decode b_C_declare 87 = .ok (.iload_n 2, 1) := by decide +kernel
theorem d_C_declare_88 : decode b_C_declare 88 = .ok (.putfield 64, 3) := by decide +kernel
theorem d_C_declare_91 : decode b_C_declare 91 = .ok (.aload 5, 2) := by decide +kernel
theorem d_C_declare_93 : decode b_C_declare 93 = .ok (.iload_n 3, 1) := by decide +kernel
theorem d_C_declare_94 : decode b_C_declare 94 = .ok (.putfield 67, 3) := by decide +kernel
theorem d_C_declare_97 : decode b_C_declare 97 = .ok (.aload 5, 2) := by decide +kernel
theorem d_C_declare_99 : decode b_C_declare 99 = .ok (.iload 4, 2) := by decide +kernel
theorem d_C_declare_101 : decode b_C_declare 101 = .ok (.putfield 70, 3) := by decide +kernel
theorem d_C_declare_104 : decode b_C_declare 104 = .ok (.return_, 1) := by decide +kernel
theorem d_C_mayUse_0 : decode b_C_mayUse 0 = .ok (.aload_n 0, 1) := by decide +kernel
theorem d_C_mayUse_1 : decode b_C_mayUse 1 = .ok (.getfield 28, 3) := by decide +kernel
theorem d_C_mayUse_4 : decode b_C_mayUse 4 = .ok (.ifCond .eq 13, 3) := by decide +kernel
theorem d_C_mayUse_7 : decode b_C_mayUse 7 = .ok (.new 48, 3) := by decide +kernel
theorem d_C_mayUse_10 : decode b_C_mayUse 10 = .ok (.dup, 1) := by decide +kernel
theorem d_C_mayUse_11 : decode b_C_mayUse 11 = .ok (.ldc 73, 2) := by decide +kernel
theorem d_C_mayUse_13 : decode b_C_mayUse 13 = .ok (.invokespecial 52, 3) := by decide +kernel
theorem d_C_mayUse_16 : decode b_C_mayUse 16 = .ok (.athrow, 1) := by decide +kernel
theorem d_C_mayUse_17 : decode b_C_mayUse 17 = .ok (.aload_n 0, 1) := by decide +kernel
theorem d_C_mayUse_18 : decode b_C_mayUse 18 = .ok (.iload_n 1, 1) := by decide +kernel
theorem d_C_mayUse_19 : decode b_C_mayUse 19 = .ok (.invokevirtual 44, 3) := by decide +kernel
theorem d_C_mayUse_22 : decode b_C_mayUse 22 = .ok (.ifCond .eq 20, 3) := by decide +kernel
theorem d_C_mayUse_25 : decode b_C_mayUse 25 = .ok (.iload_n 2, 1) := by decide +kernel
theorem d_C_mayUse_26 : decode b_C_mayUse 26 = .ok (.invokestatic 74, 3) := by decide +kernel
theorem d_C_mayUse_29 : decode b_C_mayUse 29 = .ok (.ifCond .eq 13, 3) := by decide +kernel
theorem d_C_mayUse_32 : decode b_C_mayUse 32 = .ok (.iload_n 3, 1) := by decide +kernel
theorem d_C_mayUse_33 : decode b_C_mayUse 33 = .ok (.iconst 1, 1) := by decide +kernel
theorem d_C_mayUse_34 : decode b_C_mayUse 34 = .ok (.bipush 50, 2) := by decide +kernel
theorem d_C_mayUse_36 : decode b_C_mayUse 36 = .ok (.invokestatic 55, 3) := by decide +kernel
theorem d_C_mayUse_39 : decode b_C_mayUse 39 = .ok (.ifCond .ne 13, 3) := by decide +kernel
theorem d_C_mayUse_42 : decode b_C_mayUse 42 = .ok (.new 59, 3) := by decide +kernel
theorem d_C_mayUse_45 : decode b_C_mayUse 45 = .ok (.dup, 1) := by decide +kernel
theorem d_C_mayUse_46 : decode b_C_mayUse 46 = .ok (.ldc 77, 2) := by decide +kernel
theorem d_C_mayUse_48 : decode b_C_mayUse 48 = .ok (.invokespecial 63, 3) := by decide +kernel
theorem d_C_mayUse_51 : decode b_C_mayUse 51 = .ok (.athrow, 1) := by decide +kernel
theorem d_C_mayUse_52 : decode b_C_mayUse 52 = .ok (.aload_n 0, 1) := by decide +kernel
theorem d_C_mayUse_53 : decode b_C_mayUse 53 = .ok (.getfield 11, 3) := by decide +kernel
theorem d_C_mayUse_56 : decode b_C_mayUse 56 = .ok (.iload_n 1, 1) := by decide +kernel
theorem d_C_mayUse_57 : decode b_C_mayUse 57 = .ok (.aaload, 1) := by decide +kernel
theorem d_C_mayUse_58 : decode b_C_mayUse 58 = .ok (.getfield 79, 3) := by decide +kernel
theorem d_C_mayUse_61 : decode b_C_mayUse 61 = .ok (.iload_n 2, 1) := by decide +kernel
theorem d_C_mayUse_62 : decode b_C_mayUse 62 = .ok (.iload_n 3, 1) := by decide +kernel
theorem d_C_mayUse_63 : decode b_C_mayUse 63 = .ok (.iastore, 1) := by decide +kernel
theorem d_C_mayUse_64 : decode b_C_mayUse 64 = .ok (.return_, 1) := by decide +kernel
theorem d_C_seal_0 : decode b_C_seal 0 = .ok (.aload_n 0, 1) := by decide +kernel
theorem d_C_seal_1 : decode b_C_seal 1 = .ok (.getfield 28, 3) := by decide +kernel
theorem d_C_seal_4 : decode b_C_seal 4 = .ok (.ifCond .eq 13, 3) := by decide +kernel
theorem d_C_seal_7 : decode b_C_seal 7 = .ok (.new 48, 3) := by decide +kernel
theorem d_C_seal_10 : decode b_C_seal 10 = .ok (.dup, 1) := by decide +kernel
theorem d_C_seal_11 : decode b_C_seal 11 = .ok (.ldc 73, 2) := by decide +kernel
theorem d_C_seal_13 : decode b_C_seal 13 = .ok (.invokespecial 52, 3) := by decide +kernel
theorem d_C_seal_16 : decode b_C_seal 16 = .ok (.athrow, 1) := by decide +kernel
theorem d_C_seal_17 : decode b_C_seal 17 = .ok (.aload_n 0, 1) := by decide +kernel
theorem d_C_seal_18 : decode b_C_seal 18 = .ok (.iconst 1, 1) := by decide +kernel
theorem d_C_seal_19 : decode b_C_seal 19 = .ok (.putfield 28, 3) := by decide +kernel
theorem d_C_seal_22 : decode b_C_seal 22 = .ok (.iconst 0, 1) := by decide +kernel
theorem d_C_seal_23 : decode b_C_seal 23 = .ok (.istore_n 1, 1) := by decide +kernel
theorem d_C_seal_24 : decode b_C_seal 24 = .ok (.iload_n 1, 1) := by decide +kernel
theorem d_C_seal_25 : decode b_C_seal 25 = .ok (.bipush 6, 2) := by decide +kernel
theorem d_C_seal_27 : decode b_C_seal 27 = .ok (.if_icmp .ge 23, 3) := by decide +kernel
theorem d_C_seal_30 : decode b_C_seal 30 = .ok (.aload_n 0, 1) := by decide +kernel
theorem d_C_seal_31 : decode b_C_seal 31 = .ok (.getfield 17, 3) := by decide +kernel
theorem d_C_seal_34 : decode b_C_seal 34 = .ok (.iload_n 1, 1) := by decide +kernel
theorem d_C_seal_35 : decode b_C_seal 35 = .ok (.aaload, 1) := by decide +kernel
theorem d_C_seal_36 : decode b_C_seal 36 = .ok (.aload_n 0, 1) := by decide +kernel
theorem d_C_seal_37 : decode b_C_seal 37 = .ok (.iload_n 1, 1) := by decide +kernel
theorem d_C_seal_38 : decode b_C_seal 38 = .ok (.invokevirtual 83, 3) := by decide +kernel
theorem d_C_seal_41 : decode b_C_seal 41 = .ok (.putfield 87, 3) := by decide +kernel
theorem d_C_seal_44 : decode b_C_seal 44 = .ok (.iinc 1 1, 3) := by decide +kernel
theorem d_C_seal_47 : decode b_C_seal 47 = .ok (.goto (-23), 3) := by decide +kernel
theorem d_C_seal_50 : decode b_C_seal 50 = .ok (.aload_n 0, 1) := by decide +kernel
theorem d_C_seal_51 : decode b_C_seal 51 = .ok (.invokevirtual 90, 3) := by decide +kernel
theorem d_C_seal_54 : decode b_C_seal 54 = .ok (.ireturn, 1) := by decide +kernel
theorem d_C_release_0 : decode b_C_release 0 = .ok (.aload_n 0, 1) := by decide +kernel
theorem d_C_release_1 : decode b_C_release 1 = .ok (.getfield 28, 3) := by decide +kernel
theorem d_C_release_4 : decode b_C_release 4 = .ok (.ifCond .eq 11, 3) := by decide +kernel
theorem d_C_release_7 : decode b_C_release 7 = .ok (.aload_n 0, 1) := by decide +kernel
theorem d_C_release_8 : decode b_C_release 8 = .ok (.iload_n 1, 1) := by decide +kernel
theorem d_C_release_9 : decode b_C_release 9 = .ok (.invokevirtual 94, 3) := by decide +kernel
theorem d_C_release_12 : decode b_C_release 12 = .ok (.ifCond .eq 13, 3) := by decide +kernel
theorem d_C_release_15 : decode b_C_release 15 = .ok (.new 48, 3) := by decide +kernel
theorem d_C_release_18 : decode b_C_release 18 = .ok (.dup, 1) := by decide +kernel
theorem d_C_release_19 : decode b_C_release 19 = .ok (.ldc 97, 2) := by decide +kernel
theorem d_C_release_21 : decode b_C_release 21 = .ok (.invokespecial 52, 3) := by decide +kernel
theorem d_C_release_24 : decode b_C_release 24 = .ok (.athrow, 1) := by decide +kernel
theorem d_C_release_25 : decode b_C_release 25 = .ok (.aload_n 0, 1) := by decide +kernel
theorem d_C_release_26 : decode b_C_release 26 = .ok (.iload_n 1, 1) := by decide +kernel
theorem d_C_release_27 : decode b_C_release 27 = .ok (.invokevirtual 44, 3) := by decide +kernel
theorem d_C_release_30 : decode b_C_release 30 = .ok (.ifCond .ne 13, 3) := by decide +kernel
theorem d_C_release_33 : decode b_C_release 33 = .ok (.new 59, 3) := by decide +kernel
theorem d_C_release_36 : decode b_C_release 36 = .ok (.dup, 1) := by decide +kernel
theorem d_C_release_37 : decode b_C_release 37 = .ok (.ldc 99, 2) := by decide +kernel
theorem d_C_release_39 : decode b_C_release 39 = .ok (.invokespecial 63, 3) := by decide +kernel
theorem d_C_release_42 : decode b_C_release 42 = .ok (.athrow, 1) := by decide +kernel
theorem d_C_release_43 : decode b_C_release 43 = .ok (.aload_n 0, 1) := by decide +kernel
theorem d_C_release_44 : decode b_C_release 44 = .ok (.dup, 1) := by decide +kernel
theorem d_C_release_45 : decode b_C_release 45 = .ok (.getfield 36, 3) := by decide +kernel
theorem d_C_release_48 : decode b_C_release 48 = .ok (.iconst 1, 1) := by decide +kernel
theorem d_C_release_49 : decode b_C_release 49 = .ok (.iadd, 1) := by decide +kernel
theorem d_C_release_50 : decode b_C_release 50 = .ok (.putfield 36, 3) := by decide +kernel
theorem d_C_release_53 : decode b_C_release 53 = .ok (.aload_n 0, 1) := by decide +kernel
theorem d_C_release_54 : decode b_C_release 54 = .ok (.getfield 11, 3) := by decide +kernel
theorem d_C_release_57 : decode b_C_release 57 = .ok (.iload_n 1, 1) := by decide +kernel
theorem d_C_release_58 : decode b_C_release 58 = .ok (.aaload, 1) := by decide +kernel
theorem d_C_release_59 : decode b_C_release 59 = .ok (.aload_n 0, 1) := by decide +kernel
theorem d_C_release_60 : decode b_C_release 60 = .ok (.getfield 36, 3) := by decide +kernel
theorem d_C_release_63 : decode b_C_release 63 = .ok (.invokevirtual 101, 3) := by decide +kernel
theorem d_C_release_66 : decode b_C_release 66 = .ok (.aload_n 0, 1) := by decide +kernel
theorem d_C_release_67 : decode b_C_release 67 = .ok (.iconst 1, 1) := by decide +kernel
theorem d_C_release_68 : decode b_C_release 68 = .ok (.iload_n 1, 1) := by decide +kernel
theorem d_C_release_69 : decode b_C_release 69 = .ok (.bipush 15, 2) := by decide +kernel
theorem d_C_release_71 : decode b_C_release 71 = .ok (.invokevirtual 105, 3) := by decide +kernel
theorem d_C_release_74 : decode b_C_release 74 = .ok (.aload_n 0, 1) := by decide +kernel
theorem d_C_release_75 : decode b_C_release 75 = .ok (.getfield 36, 3) := by decide +kernel
theorem d_C_release_78 : decode b_C_release 78 = .ok (.ireturn, 1) := by decide +kernel
theorem d_C_take_0 : decode b_C_take 0 = .ok (.aload_n 0, 1) := by decide +kernel
theorem d_C_take_1 : decode b_C_take 1 = .ok (.getfield 28, 3) := by decide +kernel
theorem d_C_take_4 : decode b_C_take 4 = .ok (.ifCond .eq 19, 3) := by decide +kernel
theorem d_C_take_7 : decode b_C_take 7 = .ok (.aload_n 0, 1) := by decide +kernel
theorem d_C_take_8 : decode b_C_take 8 = .ok (.getfield 39, 3) := by decide +kernel
theorem d_C_take_11 : decode b_C_take 11 = .ok (.iconst (-1), 1) := by decide +kernel
theorem d_C_take_12 : decode b_C_take 12 = .ok (.if_icmp .eq 11, 3) := by decide +kernel
theorem d_C_take_15 : decode b_C_take 15 = .ok (.aload_n 0, 1) := by decide +kernel
theorem d_C_take_16 : decode b_C_take 16 = .ok (.iload_n 1, 1) := by decide +kernel
theorem d_C_take_17 : decode b_C_take 17 = .ok (.invokevirtual 109, 3) := by decide +kernel
theorem d_C_take_20 : decode b_C_take 20 = .ok (.ifCond .eq 13, 3) := by decide +kernel
theorem d_C_take_23 : decode b_C_take 23 = .ok (.new 48, 3) := by decide +kernel
theorem d_C_take_26 : decode b_C_take 26 = .ok (.dup, 1) := by decide +kernel
theorem d_C_take_27 : decode b_C_take 27 = .ok (.ldc 112, 2) := by decide +kernel
theorem d_C_take_29 : decode b_C_take 29 = .ok (.invokespecial 52, 3) := by decide +kernel
theorem d_C_take_32 : decode b_C_take 32 = .ok (.athrow, 1) := by decide +kernel
theorem d_C_take_33 : decode b_C_take 33 = .ok (.iload_n 1, 1) := by decide +kernel
theorem d_C_take_34 : decode b_C_take 34 = .ok (.invokestatic 74, 3) := by decide +kernel
theorem d_C_take_37 : decode b_C_take 37 = .ok (.ifCond .eq 19, 3) := by decide +kernel
theorem d_C_take_40 : decode b_C_take 40 = .ok (.aload_n 0, 1) := by decide +kernel
theorem d_C_take_41 : decode b_C_take 41 = .ok (.getfield 11, 3) := by decide +kernel
theorem d_C_take_44 : decode b_C_take 44 = .ok (.aload_n 0, 1) := by decide +kernel
theorem d_C_take_45 : decode b_C_take 45 = .ok (.getfield 39, 3) := by decide +kernel
theorem d_C_take_48 : decode b_C_take 48 = .ok (.aaload, 1) := by decide +kernel
theorem d_C_take_49 : decode b_C_take 49 = .ok (.iload_n 1, 1) := by decide +kernel
theorem d_C_take_50 : decode b_C_take 50 = .ok (.invokevirtual 114, 3) := by decide +kernel
theorem d_C_take_53 : decode b_C_take 53 = .ok (.ifCond .ne 13, 3) := by decide +kernel
theorem d_C_take_56 : decode b_C_take 56 = .ok (.new 59, 3) := by decide +kernel
theorem d_C_take_59 : decode b_C_take 59 = .ok (.dup, 1) := by decide +kernel
theorem d_C_take_60 : decode b_C_take 60 = .ok (.ldc 117, 2) := by decide +kernel
theorem d_C_take_62 : decode b_C_take 62 = .ok (.invokespecial 63, 3) := by decide +kernel
theorem d_C_take_65 : decode b_C_take 65 = .ok (.athrow, 1) := by decide +kernel
theorem d_C_take_66 : decode b_C_take 66 = .ok (.aload_n 0, 1) := by decide +kernel
theorem d_C_take_67 : decode b_C_take 67 = .ok (.getfield 11, 3) := by decide +kernel
theorem d_C_take_70 : decode b_C_take 70 = .ok (.aload_n 0, 1) := by decide +kernel
theorem d_C_take_71 : decode b_C_take 71 = .ok (.getfield 39, 3) := by decide +kernel
theorem d_C_take_74 : decode b_C_take 74 = .ok (.aaload, 1) := by decide +kernel
theorem d_C_take_75 : decode b_C_take 75 = .ok (.astore_n 2, 1) := by decide +kernel
theorem d_C_take_76 : decode b_C_take 76 = .ok (.aload_n 0, 1) := by decide +kernel
theorem d_C_take_77 : decode b_C_take 77 = .ok (.getfield 17, 3) := by decide +kernel
theorem d_C_take_80 : decode b_C_take 80 = .ok (.iload_n 1, 1) := by decide +kernel
theorem d_C_take_81 : decode b_C_take 81 = .ok (.aaload, 1) := by decide +kernel
theorem d_C_take_82 : decode b_C_take 82 = .ok (.astore_n 3, 1) := by decide +kernel
theorem d_C_take_83 : decode b_C_take 83 = .ok (.aload_n 3, 1) := by decide +kernel
theorem d_C_take_84 : decode b_C_take 84 = .ok (.aload_n 0, 1) := by decide +kernel
theorem d_C_take_85 : decode b_C_take 85 = .ok (.getfield 39, 3) := by decide +kernel
theorem d_C_take_88 : decode b_C_take 88 = .ok (.putfield 119, 3) := by decide +kernel
theorem d_C_take_91 : decode b_C_take 91 = .ok (.aload_n 3, 1) := by decide +kernel
theorem d_C_take_92 : decode b_C_take 92 = .ok (.aload_n 2, 1) := by decide +kernel
theorem d_C_take_93 : decode b_C_take 93 = .ok (.getfield 122, 3) := by decide +kernel
theorem d_C_take_96 : decode b_C_take 96 = .ok (.putfield 125, 3) := by decide +kernel
theorem d_C_take_99 : decode b_C_take 99 = .ok (.aload_n 3, 1) := by decide +kernel
theorem d_C_take_100 : decode b_C_take 100 = .ok (.aload_n 2, 1) := by decide +kernel
theorem d_C_take_101 : decode b_C_take 101 = .ok (.getfield 128, 3) := by decide +kernel
theorem d_C_take_104 : decode b_C_take 104 = .ok (.putfield 131, 3) := by decide +kernel
theorem d_C_take_107 : decode b_C_take 107 = .ok (.aload_n 2, 1) := by decide +kernel
theorem d_C_take_108 : decode b_C_take 108 = .ok (.iload_n 1, 1) := by decide +kernel
theorem d_C_take_109 : decode b_C_take 109 = .ok (.putfield 122, 3) := by decide +kernel
theorem d_C_take_112 : decode b_C_take 112 = .ok (.aload_n 2, 1) := by decide +kernel
theorem d_C_take_113 : decode b_C_take 113 = .ok (.aload_n 2, 1) := by decide +kernel
theorem d_C_take_114 : decode b_C_take 114 = .ok (.getfield 128, 3) := by decide +kernel
theorem d_C_take_117 : decode b_C_take 117 = .ok (.aload_n 3, 1) := by decide +kernel
theorem d_C_take_118 : decode b_C_take 118 = .ok (.getfield 87, 3) := by decide +kernel
theorem d_C_take_121 : decode b_C_take 121 = .ok (.invokestatic 134, 3) := by decide +kernel
theorem d_C_take_124 : decode b_C_take 124 = .ok (.putfield 128, 3) := by decide +kernel
theorem d_C_take_127 : decode b_C_take 127 = .ok (.aload_n 0, 1) := by decide +kernel
theorem d_C_take_128 : decode b_C_take 128 = .ok (.iconst 2, 1) := by decide +kernel
theorem d_C_take_129 : decode b_C_take 129 = .ok (.aload_n 0, 1) := by decide +kernel
theorem d_C_take_130 : decode b_C_take 130 = .ok (.getfield 39, 3) := by decide +kernel
theorem d_C_take_133 : decode b_C_take 133 = .ok (.iload_n 1, 1) := by decide +kernel
theorem d_C_take_134 : decode b_C_take 134 = .ok (.invokevirtual 105, 3) := by decide +kernel
theorem d_C_take_137 : decode b_C_take 137 = .ok (.aload_n 2, 1) := by decide +kernel
theorem d_C_take_138 : decode b_C_take 138 = .ok (.getfield 128, 3) := by decide +kernel
theorem d_C_take_141 : decode b_C_take 141 = .ok (.ireturn, 1) := by decide +kernel
theorem d_C_give_0 : decode b_C_give 0 = .ok (.aload_n 0, 1) := by decide +kernel
theorem d_C_give_1 : decode b_C_give 1 = .ok (.getfield 39, 3) := by decide +kernel
theorem d_C_give_4 : decode b_C_give 4 = .ok (.iconst (-1), 1) := by decide +kernel
theorem d_C_give_5 : decode b_C_give 5 = .ok (.if_icmp .ne 13, 3) := by decide +kernel
theorem d_C_give_8 : decode b_C_give 8 = .ok (.new 48, 3) := by decide +kernel
theorem d_C_give_11 : decode b_C_give 11 = .ok (.dup, 1) := by decide +kernel
theorem d_C_give_12 : decode b_C_give 12 = .ok (.ldc 140, 2) := by decide +kernel
theorem d_C_give_14 : decode b_C_give 14 = .ok (.invokespecial 52, 3) := by decide +kernel
theorem d_C_give_17 : decode b_C_give 17 = .ok (.athrow, 1) := by decide +kernel
theorem d_C_give_18 : decode b_C_give 18 = .ok (.iload_n 1, 1) := by decide +kernel
theorem d_C_give_19 : decode b_C_give 19 = .ok (.invokestatic 74, 3) := by decide +kernel
theorem d_C_give_22 : decode b_C_give 22 = .ok (.ifCond .eq 19, 3) := by decide +kernel
theorem d_C_give_25 : decode b_C_give 25 = .ok (.aload_n 0, 1) := by decide +kernel
theorem d_C_give_26 : decode b_C_give 26 = .ok (.getfield 11, 3) := by decide +kernel
theorem d_C_give_29 : decode b_C_give 29 = .ok (.aload_n 0, 1) := by decide +kernel
theorem d_C_give_30 : decode b_C_give 30 = .ok (.getfield 39, 3) := by decide +kernel
theorem d_C_give_33 : decode b_C_give 33 = .ok (.aaload, 1) := by decide +kernel
theorem d_C_give_34 : decode b_C_give 34 = .ok (.getfield 122, 3) := by decide +kernel
theorem d_C_give_37 : decode b_C_give 37 = .ok (.iload_n 1, 1) := by decide +kernel
theorem d_C_give_38 : decode b_C_give 38 = .ok (.if_icmp .eq 13, 3) := by decide +kernel
theorem d_C_give_41 : decode b_C_give 41 = .ok (.new 59, 3) := by decide +kernel
theorem d_C_give_44 : decode b_C_give 44 = .ok (.dup, 1) := by decide +kernel
theorem d_C_give_45 : decode b_C_give 45 = .ok (.ldc 142, 2) := by decide +kernel
theorem d_C_give_47 : decode b_C_give 47 = .ok (.invokespecial 63, 3) := by decide +kernel
theorem d_C_give_50 : decode b_C_give 50 = .ok (.athrow, 1) := by decide +kernel
theorem d_C_give_51 : decode b_C_give 51 = .ok (.aload_n 0, 1) := by decide +kernel
theorem d_C_give_52 : decode b_C_give 52 = .ok (.getfield 11, 3) := by decide +kernel
theorem d_C_give_55 : decode b_C_give 55 = .ok (.aload_n 0, 1) := by decide +kernel
theorem d_C_give_56 : decode b_C_give 56 = .ok (.getfield 39, 3) := by decide +kernel
theorem d_C_give_59 : decode b_C_give 59 = .ok (.aaload, 1) := by decide +kernel
theorem d_C_give_60 : decode b_C_give 60 = .ok (.astore_n 2, 1) := by decide +kernel
theorem d_C_give_61 : decode b_C_give 61 = .ok (.aload_n 0, 1) := by decide +kernel
theorem d_C_give_62 : decode b_C_give 62 = .ok (.getfield 17, 3) := by decide +kernel
theorem d_C_give_65 : decode b_C_give 65 = .ok (.iload_n 1, 1) := by decide +kernel
theorem d_C_give_66 : decode b_C_give 66 = .ok (.aaload, 1) := by decide +kernel
theorem d_C_give_67 : decode b_C_give 67 = .ok (.astore_n 3, 1) := by decide +kernel
theorem d_C_give_68 : decode b_C_give 68 = .ok (.aload_n 2, 1) := by decide +kernel
theorem d_C_give_69 : decode b_C_give 69 = .ok (.aload_n 3, 1) := by decide +kernel
theorem d_C_give_70 : decode b_C_give 70 = .ok (.getfield 125, 3) := by decide +kernel
theorem d_C_give_73 : decode b_C_give 73 = .ok (.putfield 122, 3) := by decide +kernel
theorem d_C_give_76 : decode b_C_give 76 = .ok (.aload_n 2, 1) := by decide +kernel
theorem d_C_give_77 : decode b_C_give 77 = .ok (.aload_n 3, 1) := by decide +kernel
theorem d_C_give_78 : decode b_C_give 78 = .ok (.getfield 131, 3) := by decide +kernel
theorem d_C_give_81 : decode b_C_give 81 = .ok (.putfield 128, 3) := by decide +kernel
theorem d_C_give_84 : decode b_C_give 84 = .ok (.aload_n 3, 1) := by decide +kernel
theorem d_C_give_85 : decode b_C_give 85 = .ok (.iconst (-1), 1) := by decide +kernel
theorem d_C_give_86 : decode b_C_give 86 = .ok (.putfield 119, 3) := by decide +kernel
theorem d_C_give_89 : decode b_C_give 89 = .ok (.aload_n 0, 1) := by decide +kernel
theorem d_C_give_90 : decode b_C_give 90 = .ok (.iconst 3, 1) := by decide +kernel
theorem d_C_give_91 : decode b_C_give 91 = .ok (.aload_n 0, 1) := by decide +kernel
theorem d_C_give_92 : decode b_C_give 92 = .ok (.getfield 39, 3) := by decide +kernel
theorem d_C_give_95 : decode b_C_give 95 = .ok (.iload_n 1, 1) := by decide +kernel
theorem d_C_give_96 : decode b_C_give 96 = .ok (.invokevirtual 105, 3) := by decide +kernel
theorem d_C_give_99 : decode b_C_give 99 = .ok (.aload_n 2, 1) := by decide +kernel
theorem d_C_give_100 : decode b_C_give 100 = .ok (.getfield 128, 3) := by decide +kernel
theorem d_C_give_103 : decode b_C_give 103 = .ok (.ireturn, 1) := by decide +kernel
theorem d_C_finish_0 : decode b_C_finish 0 = .ok (.aload_n 0, 1) := by decide +kernel
theorem d_C_finish_1 : decode b_C_finish 1 = .ok (.getfield 39, 3) := by decide +kernel
theorem d_C_finish_4 : decode b_C_finish 4 = .ok (.iconst (-1), 1) := by decide +kernel
theorem d_C_finish_5 : decode b_C_finish 5 = .ok (.if_icmp .eq 19, 3) := by decide +kernel
theorem d_C_finish_8 : decode b_C_finish 8 = .ok (.aload_n 0, 1) := by decide +kernel
theorem d_C_finish_9 : decode b_C_finish 9 = .ok (.getfield 11, 3) := by decide +kernel
theorem d_C_finish_12 : decode b_C_finish 12 = .ok (.aload_n 0, 1) := by decide +kernel
theorem d_C_finish_13 : decode b_C_finish 13 = .ok (.getfield 39, 3) := by decide +kernel
theorem d_C_finish_16 : decode b_C_finish 16 = .ok (.aaload, 1) := by decide +kernel
theorem d_C_finish_17 : decode b_C_finish 17 = .ok (.getfield 122, 3) := by decide +kernel
theorem d_C_finish_20 : decode b_C_finish 20 = .ok (.iconst (-1), 1) := by decide +kernel
theorem d_C_finish_21 : decode b_C_finish 21 = .ok (.if_icmp .eq 13, 3) := by decide +kernel
theorem d_C_finish_24 : decode b_C_finish 24 = .ok (.new 48, 3) := by decide +kernel
theorem d_C_finish_27 : decode b_C_finish 27 = .ok (.dup, 1) := by decide +kernel
theorem d_C_finish_28 : decode b_C_finish 28 = .ok (.ldc 144, 2) := by decide +kernel
theorem d_C_finish_30 : decode b_C_finish 30 = .ok (.invokespecial 52, 3) := by decide +kernel
theorem d_C_finish_33 : decode b_C_finish 33 = .ok (.athrow, 1) := by decide +kernel
theorem d_C_finish_34 : decode b_C_finish 34 = .ok (.aload_n 0, 1) := by decide +kernel
theorem d_C_finish_35 : decode b_C_finish 35 = .ok (.getfield 11, 3) := by decide +kernel
theorem d_C_finish_38 : decode b_C_finish 38 = .ok (.aload_n 0, 1) := by decide +kernel
theorem d_C_finish_39 : decode b_C_finish 39 = .ok (.getfield 39, 3) := by decide +kernel
theorem d_C_finish_42 : decode b_C_finish 42 = .ok (.aaload, 1) := by decide +kernel
theorem d_C_finish_43 : decode b_C_finish 43 = .ok (.astore_n 1, 1) := by decide +kernel
theorem d_C_finish_44 : decode b_C_finish 44 = .ok (.aload_n 1, 1) := by decide +kernel
theorem d_C_finish_45 : decode b_C_finish 45 = .ok (.iconst 0, 1) := by decide +kernel
theorem d_C_finish_46 : decode b_C_finish 46 = .ok (.putfield 146, 3) := by decide +kernel
theorem d_C_finish_49 : decode b_C_finish 49 = .ok (.aload_n 0, 1) := by decide +kernel
theorem d_C_finish_50 : decode b_C_finish 50 = .ok (.iconst 4, 1) := by decide +kernel
theorem d_C_finish_51 : decode b_C_finish 51 = .ok (.aload_n 0, 1) := by decide +kernel
theorem d_C_finish_52 : decode b_C_finish 52 = .ok (.getfield 39, 3) := by decide +kernel
theorem d_C_finish_55 : decode b_C_finish 55 = .ok (.bipush 15, 2) := by decide +kernel
theorem d_C_finish_57 : decode b_C_finish 57 = .ok (.invokevirtual 105, 3) := by decide +kernel
theorem d_C_finish_60 : decode b_C_finish 60 = .ok (.aload_n 1, 1) := by decide +kernel
theorem d_C_finish_61 : decode b_C_finish 61 = .ok (.getfield 149, 3) := by decide +kernel
theorem d_C_finish_64 : decode b_C_finish 64 = .ok (.ireturn, 1) := by decide +kernel
theorem d_C_pass_0 : decode b_C_pass 0 = .ok (.iload_n 1, 1) := by decide +kernel
theorem d_C_pass_1 : decode b_C_pass 1 = .ok (.iconst 0, 1) := by decide +kernel
theorem d_C_pass_2 : decode b_C_pass 2 = .ok (.bipush 100, 2) := by decide +kernel
theorem d_C_pass_4 : decode b_C_pass 4 = .ok (.invokestatic 55, 3) := by decide +kernel
theorem d_C_pass_7 : decode b_C_pass 7 = .ok (.ifCond .ne 13, 3) := by decide +kernel
theorem d_C_pass_10 : decode b_C_pass 10 = .ok (.new 59, 3) := by decide +kernel
theorem d_C_pass_13 : decode b_C_pass 13 = .ok (.dup, 1) := by decide +kernel
theorem d_C_pass_14 : decode b_C_pass 14 = .ok (.ldc 152, 2) := by decide +kernel
theorem d_C_pass_16 : decode b_C_pass 16 = .ok (.invokespecial 63, 3) := by decide +kernel
theorem d_C_pass_19 : decode b_C_pass 19 = .ok (.athrow, 1) := by decide +kernel
theorem d_C_pass_20 : decode b_C_pass 20 = .ok (.aload_n 0, 1) := by decide +kernel
theorem d_C_pass_21 : decode b_C_pass 21 = .ok (.dup, 1) := by decide +kernel
theorem d_C_pass_22 : decode b_C_pass 22 = .ok (.getfield 32, 3) := by decide +kernel
theorem d_C_pass_25 : decode b_C_pass 25 = .ok (.iload_n 1, 1) := by decide +kernel
theorem d_C_pass_26 : decode b_C_pass 26 = .ok (.iadd, 1) := by decide +kernel
theorem d_C_pass_27 : decode b_C_pass 27 = .ok (.putfield 32, 3) := by decide +kernel
theorem d_C_pass_30 : decode b_C_pass 30 = .ok (.aload_n 0, 1) := by decide +kernel
theorem d_C_pass_31 : decode b_C_pass 31 = .ok (.getfield 39, 3) := by decide +kernel
theorem d_C_pass_34 : decode b_C_pass 34 = .ok (.iconst (-1), 1) := by decide +kernel
theorem d_C_pass_35 : decode b_C_pass 35 = .ok (.if_icmp .eq 38, 3) := by decide +kernel
theorem d_C_pass_38 : decode b_C_pass 38 = .ok (.aload_n 0, 1) := by decide +kernel
theorem d_C_pass_39 : decode b_C_pass 39 = .ok (.getfield 11, 3) := by decide +kernel
theorem d_C_pass_42 : decode b_C_pass 42 = .ok (.aload_n 0, 1) := by decide +kernel
theorem d_C_pass_43 : decode b_C_pass 43 = .ok (.getfield 39, 3) := by decide +kernel
theorem d_C_pass_46 : decode b_C_pass 46 = .ok (.aaload, 1) := by decide +kernel
theorem d_C_pass_47 : decode b_C_pass 47 = .ok (.dup, 1) := by decide +kernel
theorem d_C_pass_48 : decode b_C_pass 48 = .ok (.getfield 149, 3) := by decide +kernel
theorem d_C_pass_51 : decode b_C_pass 51 = .ok (.iload_n 1, 1) := by decide +kernel
theorem d_C_pass_52 : decode b_C_pass 52 = .ok (.iadd, 1) := by decide +kernel
theorem d_C_pass_53 : decode b_C_pass 53 = .ok (.putfield 149, 3) := by decide +kernel
theorem d_C_pass_56 : decode b_C_pass 56 = .ok (.aload_n 0, 1) := by decide +kernel
theorem d_C_pass_57 : decode b_C_pass 57 = .ok (.aload_n 0, 1) := by decide +kernel
theorem d_C_pass_58 : decode b_C_pass 58 = .ok (.getfield 11, 3) := by decide +kernel
theorem d_C_pass_61 : decode b_C_pass 61 = .ok (.aload_n 0, 1) := by decide +kernel
theorem d_C_pass_62 : decode b_C_pass 62 = .ok (.getfield 39, 3) := by decide +kernel
theorem d_C_pass_65 : decode b_C_pass 65 = .ok (.aaload, 1) := by decide +kernel
theorem d_C_pass_66 : decode b_C_pass 66 = .ok (.getfield 64, 3) := by decide +kernel
theorem d_C_pass_69 : decode b_C_pass 69 = .ok (.iload_n 1, 1) := by decide +kernel
theorem d_C_pass_70 : decode b_C_pass 70 = .ok (.invokevirtual 154, 3) := by decide +kernel
theorem d_C_pass_73 : decode b_C_pass 73 = .ok (.aload_n 0, 1) := by decide +kernel
theorem d_C_pass_74 : decode b_C_pass 74 = .ok (.getfield 32, 3) := by decide +kernel
theorem d_C_pass_77 : decode b_C_pass 77 = .ok (.ireturn, 1) := by decide +kernel
theorem d_C_running_0 : decode b_C_running 0 = .ok (.aload_n 0, 1) := by decide +kernel
theorem d_C_running_1 : decode b_C_running 1 = .ok (.getfield 39, 3) := by decide +kernel
theorem d_C_running_4 : decode b_C_running 4 = .ok (.ireturn, 1) := by decide +kernel
theorem d_C_priority_0 : decode b_C_priority 0 = .ok (.aload_n 0, 1) := by decide +kernel
theorem d_C_priority_1 : decode b_C_priority 1 = .ok (.iload_n 1, 1) := by decide +kernel
theorem d_C_priority_2 : decode b_C_priority 2 = .ok (.invokevirtual 44, 3) := by decide +kernel
theorem d_C_priority_5 : decode b_C_priority 5 = .ok (.ifCond .ne 5, 3) := by decide +kernel
theorem d_C_priority_8 : decode b_C_priority 8 = .ok (.iconst (-1), 1) := by decide +kernel
theorem d_C_priority_9 : decode b_C_priority 9 = .ok (.ireturn, 1) := by decide +kernel
theorem d_C_priority_10 : decode b_C_priority 10 = .ok (.aload_n 0, 1) := by decide +kernel
theorem d_C_priority_11 : decode b_C_priority 11 = .ok (.getfield 11, 3) := by decide +kernel
theorem d_C_priority_14 : decode b_C_priority 14 = .ok (.iload_n 1, 1) := by decide +kernel
theorem d_C_priority_15 : decode b_C_priority 15 = .ok (.aaload, 1) := by decide +kernel
theorem d_C_priority_16 : decode b_C_priority 16 = .ok (.getfield 146, 3) := by decide +kernel
theorem d_C_priority_19 : decode b_C_priority 19 = .ok (.ifCond .eq 15, 3) := by decide +kernel
theorem d_C_priority_22 : decode b_C_priority 22 = .ok (.aload_n 0, 1) := by decide +kernel
theorem d_C_priority_23 : decode b_C_priority 23 = .ok (.getfield 11, 3) := by decide +kernel
theorem d_C_priority_26 : decode b_C_priority 26 = .ok (.iload_n 1, 1) := by decide +kernel
theorem d_C_priority_27 : decode b_C_priority 27 = .ok (.aaload, 1) := by decide +kernel
theorem d_C_priority_28 : decode b_C_priority 28 = .ok (.getfield 128, 3) := by decide +kernel
theorem d_C_priority_31 : decode b_C_priority 31 = .ok (.goto 12, 3) := by decide +kernel
theorem d_C_priority_34 : decode b_C_priority 34 = .ok (.aload_n 0, 1) := by decide +kernel
theorem d_C_priority_35 : decode b_C_priority 35 = .ok (.getfield 11, 3) := by decide +kernel
theorem d_C_priority_38 : decode b_C_priority 38 = .ok (.iload_n 1, 1) := by decide +kernel
theorem d_C_priority_39 : decode b_C_priority 39 = .ok (.aaload, 1) := by decide +kernel
theorem d_C_priority_40 : decode b_C_priority 40 = .ok (.getfield 64, 3) := by decide +kernel
theorem d_C_priority_43 : decode b_C_priority 43 = .ok (.ireturn, 1) := by decide +kernel
theorem d_C_place_0 : decode b_C_place 0 = .ok (.aload_n 0, 1) := by decide +kernel
theorem d_C_place_1 : decode b_C_place 1 = .ok (.iload_n 1, 1) := by decide +kernel
theorem d_C_place_2 : decode b_C_place 2 = .ok (.invokevirtual 94, 3) := by decide +kernel
theorem d_C_place_5 : decode b_C_place 5 = .ok (.ifCond .ne 5, 3) := by decide +kernel
theorem d_C_place_8 : decode b_C_place 8 = .ok (.iconst (-1), 1) := by decide +kernel
theorem d_C_place_9 : decode b_C_place 9 = .ok (.ireturn, 1) := by decide +kernel
theorem d_C_place_10 : decode b_C_place 10 = .ok (.iconst 0, 1) := by decide +kernel
theorem d_C_place_11 : decode b_C_place 11 = .ok (.istore_n 2, 1) := by decide +kernel
theorem d_C_place_12 : decode b_C_place 12 = .ok (.iconst 0, 1) := by decide +kernel
theorem d_C_place_13 : decode b_C_place 13 = .ok (.istore_n 3, 1) := by decide +kernel
theorem d_C_place_14 : decode b_C_place 14 = .ok (.iload_n 3, 1) := by decide +kernel
theorem d_C_place_15 : decode b_C_place 15 = .ok (.bipush 8, 2) := by decide +kernel
theorem d_C_place_17 : decode b_C_place 17 = .ok (.if_icmp .ge 42, 3) := by decide +kernel
theorem d_C_place_20 : decode b_C_place 20 = .ok (.aload_n 0, 1) := by decide +kernel
theorem d_C_place_21 : decode b_C_place 21 = .ok (.getfield 11, 3) := by decide +kernel
theorem d_C_place_24 : decode b_C_place 24 = .ok (.iload_n 3, 1) := by decide +kernel
theorem d_C_place_25 : decode b_C_place 25 = .ok (.aaload, 1) := by decide +kernel
theorem d_C_place_26 : decode b_C_place 26 = .ok (.getfield 146, 3) := by decide +kernel
theorem d_C_place_29 : decode b_C_place 29 = .ok (.ifCond .eq 24, 3) := by decide +kernel
theorem d_C_place_32 : decode b_C_place 32 = .ok (.aload_n 0, 1) := by decide +kernel
theorem d_C_place_33 : decode b_C_place 33 = .ok (.getfield 11, 3) := by decide +kernel
theorem d_C_place_36 : decode b_C_place 36 = .ok (.iload_n 3, 1) := by decide +kernel
theorem d_C_place_37 : decode b_C_place 37 = .ok (.aaload, 1) := by decide +kernel
theorem d_C_place_38 : decode b_C_place 38 = .ok (.aload_n 0, 1) := by decide +kernel
theorem d_C_place_39 : decode b_C_place 39 = .ok (.getfield 11, 3) := by decide +kernel
theorem d_C_place_42 : decode b_C_place 42 = .ok (.iload_n 1, 1) := by decide +kernel
theorem d_C_place_43 : decode b_C_place 43 = .ok (.aaload, 1) := by decide +kernel
theorem d_C_place_44 : decode b_C_place 44 = .ok (.invokevirtual 158, 3) := by decide +kernel
theorem d_C_place_47 : decode b_C_place 47 = .ok (.ifCond .eq 6, 3) := by decide +kernel
theorem d_C_place_50 : decode b_C_place 50 = .ok (.iinc 2 1, 3) := by decide +kernel
theorem d_C_place_53 : decode b_C_place 53 = .ok (.iinc 3 1, 3) := by decide +kernel
theorem d_C_place_56 : decode b_C_place 56 = .ok (.goto (-42), 3) := by decide +kernel
theorem d_C_place_59 : decode b_C_place 59 = .ok (.iload_n 2, 1) := by decide +kernel
theorem d_C_place_60 : decode b_C_place 60 = .ok (.ireturn, 1) := by decide +kernel
theorem d_C_ceiling_0 : decode b_C_ceiling 0 = .ok (.aload_n 0, 1) := by decide +kernel
theorem d_C_ceiling_1 : decode b_C_ceiling 1 = .ok (.getfield 28, 3) := by decide +kernel
theorem d_C_ceiling_4 : decode b_C_ceiling 4 = .ok (.ifCond .eq 22, 3) := by decide +kernel
theorem d_C_ceiling_7 : decode b_C_ceiling 7 = .ok (.iload_n 1, 1) := by decide +kernel
theorem d_C_ceiling_8 : decode b_C_ceiling 8 = .ok (.invokestatic 74, 3) := by decide +kernel
theorem d_C_ceiling_11 : decode b_C_ceiling 11 = .ok (.ifCond .eq 15, 3) := by decide +kernel
theorem d_C_ceiling_14 : decode b_C_ceiling 14 = .ok (.aload_n 0, 1) := by decide +kernel
theorem d_C_ceiling_15 : decode b_C_ceiling 15 = .ok (.getfield 17, 3) := by decide +kernel
theorem d_C_ceiling_18 : decode b_C_ceiling 18 = .ok (.iload_n 1, 1) := by decide +kernel
theorem d_C_ceiling_19 : decode b_C_ceiling 19 = .ok (.aaload, 1) := by decide +kernel
theorem d_C_ceiling_20 : decode b_C_ceiling 20 = .ok (.getfield 87, 3) := by decide +kernel
theorem d_C_ceiling_23 : decode b_C_ceiling 23 = .ok (.goto 4, 3) := by decide +kernel
theorem d_C_ceiling_26 : decode b_C_ceiling 26 = .ok (.iconst (-1), 1) := by decide +kernel
theorem d_C_ceiling_27 : decode b_C_ceiling 27 = .ok (.ireturn, 1) := by decide +kernel
theorem d_C_holder_0 : decode b_C_holder 0 = .ok (.iload_n 1, 1) := by decide +kernel
theorem d_C_holder_1 : decode b_C_holder 1 = .ok (.invokestatic 74, 3) := by decide +kernel
theorem d_C_holder_4 : decode b_C_holder 4 = .ok (.ifCond .eq 15, 3) := by decide +kernel
theorem d_C_holder_7 : decode b_C_holder 7 = .ok (.aload_n 0, 1) := by decide +kernel
theorem d_C_holder_8 : decode b_C_holder 8 = .ok (.getfield 17, 3) := by decide +kernel
theorem d_C_holder_11 : decode b_C_holder 11 = .ok (.iload_n 1, 1) := by decide +kernel
theorem d_C_holder_12 : decode b_C_holder 12 = .ok (.aaload, 1) := by decide +kernel
theorem d_C_holder_13 : decode b_C_holder 13 = .ok (.getfield 119, 3) := by decide +kernel
theorem d_C_holder_16 : decode b_C_holder 16 = .ok (.goto 4, 3) := by decide +kernel
theorem d_C_holder_19 : decode b_C_holder 19 = .ok (.iconst (-1), 1) := by decide +kernel
theorem d_C_holder_20 : decode b_C_holder 20 = .ok (.ireturn, 1) := by decide +kernel
theorem d_C_spent_0 : decode b_C_spent 0 = .ok (.aload_n 0, 1) := by decide +kernel
theorem d_C_spent_1 : decode b_C_spent 1 = .ok (.iload_n 1, 1) := by decide +kernel
theorem d_C_spent_2 : decode b_C_spent 2 = .ok (.invokevirtual 44, 3) := by decide +kernel
theorem d_C_spent_5 : decode b_C_spent 5 = .ok (.ifCond .ne 5, 3) := by decide +kernel
theorem d_C_spent_8 : decode b_C_spent 8 = .ok (.iconst 0, 1) := by decide +kernel
theorem d_C_spent_9 : decode b_C_spent 9 = .ok (.ireturn, 1) := by decide +kernel
theorem d_C_spent_10 : decode b_C_spent 10 = .ok (.iload_n 2, 1) := by decide +kernel
theorem d_C_spent_11 : decode b_C_spent 11 = .ok (.ifCond .ne 13, 3) := by decide +kernel
theorem d_C_spent_14 : decode b_C_spent 14 = .ok (.aload_n 0, 1) := by decide +kernel
theorem d_C_spent_15 : decode b_C_spent 15 = .ok (.getfield 11, 3) := by decide +kernel
theorem d_C_spent_18 : decode b_C_spent 18 = .ok (.iload_n 1, 1) := by decide +kernel
theorem d_C_spent_19 : decode b_C_spent 19 = .ok (.aaload, 1) := by decide +kernel
theorem d_C_spent_20 : decode b_C_spent 20 = .ok (.getfield 149, 3) := by decide +kernel
theorem d_C_spent_23 : decode b_C_spent 23 = .ok (.ireturn, 1) := by decide +kernel
theorem d_C_spent_24 : decode b_C_spent 24 = .ok (.iload_n 2, 1) := by decide +kernel
theorem d_C_spent_25 : decode b_C_spent 25 = .ok (.iconst 1, 1) := by decide +kernel
theorem d_C_spent_26 : decode b_C_spent 26 = .ok (.if_icmp .ne 15, 3) := by decide +kernel
theorem d_C_spent_29 : decode b_C_spent 29 = .ok (.aload_n 0, 1) := by decide +kernel
theorem d_C_spent_30 : decode b_C_spent 30 = .ok (.getfield 11, 3) := by decide +kernel
theorem d_C_spent_33 : decode b_C_spent 33 = .ok (.iload_n 1, 1) := by decide +kernel
theorem d_C_spent_34 : decode b_C_spent 34 = .ok (.aaload, 1) := by decide +kernel
theorem d_C_spent_35 : decode b_C_spent 35 = .ok (.getfield 162, 3) := by decide +kernel
theorem d_C_spent_38 : decode b_C_spent 38 = .ok (.goto 4, 3) := by decide +kernel
theorem d_C_spent_41 : decode b_C_spent 41 = .ok (.iconst 0, 1) := by decide +kernel
theorem d_C_spent_42 : decode b_C_spent 42 = .ok (.ireturn, 1) := by decide +kernel
theorem d_C_blocking_0 : decode b_C_blocking 0 = .ok (.aload_n 0, 1) := by decide +kernel
theorem d_C_blocking_1 : decode b_C_blocking 1 = .ok (.getfield 28, 3) := by decide +kernel
theorem d_C_blocking_4 : decode b_C_blocking 4 = .ok (.ifCond .eq 27, 3) := by decide +kernel
theorem d_C_blocking_7 : decode b_C_blocking 7 = .ok (.aload_n 0, 1) := by decide +kernel
theorem d_C_blocking_8 : decode b_C_blocking 8 = .ok (.iload_n 1, 1) := by decide +kernel
theorem d_C_blocking_9 : decode b_C_blocking 9 = .ok (.invokevirtual 44, 3) := by decide +kernel
theorem d_C_blocking_12 : decode b_C_blocking 12 = .ok (.ifCond .eq 19, 3) := by decide +kernel
theorem d_C_blocking_15 : decode b_C_blocking 15 = .ok (.aload_n 0, 1) := by decide +kernel
theorem d_C_blocking_16 : decode b_C_blocking 16 = .ok (.aload_n 0, 1) := by decide +kernel
theorem d_C_blocking_17 : decode b_C_blocking 17 = .ok (.getfield 11, 3) := by decide +kernel
theorem d_C_blocking_20 : decode b_C_blocking 20 = .ok (.iload_n 1, 1) := by decide +kernel
theorem d_C_blocking_21 : decode b_C_blocking 21 = .ok (.aaload, 1) := by decide +kernel
theorem d_C_blocking_22 : decode b_C_blocking 22 = .ok (.getfield 64, 3) := by decide +kernel
theorem d_C_blocking_25 : decode b_C_blocking 25 = .ok (.invokevirtual 165, 3) := by decide +kernel
theorem d_C_blocking_28 : decode b_C_blocking 28 = .ok (.goto 4, 3) := by decide +kernel
theorem d_C_blocking_31 : decode b_C_blocking 31 = .ok (.iconst (-1), 1) := by decide +kernel
theorem d_C_blocking_32 : decode b_C_blocking 32 = .ok (.ireturn, 1) := by decide +kernel
theorem d_C_response_0 : decode b_C_response 0 = .ok (.aload_n 0, 1) := by decide +kernel
theorem d_C_response_1 : decode b_C_response 1 = .ok (.getfield 28, 3) := by decide +kernel
theorem d_C_response_4 : decode b_C_response 4 = .ok (.ifCond .eq 11, 3) := by decide +kernel
theorem d_C_response_7 : decode b_C_response 7 = .ok (.aload_n 0, 1) := by decide +kernel
theorem d_C_response_8 : decode b_C_response 8 = .ok (.iload_n 1, 1) := by decide +kernel
theorem d_C_response_9 : decode b_C_response 9 = .ok (.invokevirtual 44, 3) := by decide +kernel
theorem d_C_response_12 : decode b_C_response 12 = .ok (.ifCond .ne 5, 3) := by decide +kernel
theorem d_C_response_15 : decode b_C_response 15 = .ok (.iconst (-1), 1) := by decide +kernel
theorem d_C_response_16 : decode b_C_response 16 = .ok (.ireturn, 1) := by decide +kernel
theorem d_C_response_17 : decode b_C_response 17 = .ok (.aload_n 0, 1) := by decide +kernel
theorem d_C_response_18 : decode b_C_response 18 = .ok (.getfield 11, 3) := by decide +kernel
theorem d_C_response_21 : decode b_C_response 21 = .ok (.iload_n 1, 1) := by decide +kernel
theorem d_C_response_22 : decode b_C_response 22 = .ok (.aaload, 1) := by decide +kernel
theorem d_C_response_23 : decode b_C_response 23 = .ok (.getfield 67, 3) := by decide +kernel
theorem d_C_response_26 : decode b_C_response 26 = .ok (.aload_n 0, 1) := by decide +kernel
theorem d_C_response_27 : decode b_C_response 27 = .ok (.aload_n 0, 1) := by decide +kernel
theorem d_C_response_28 : decode b_C_response 28 = .ok (.getfield 11, 3) := by decide +kernel
theorem d_C_response_31 : decode b_C_response 31 = .ok (.iload_n 1, 1) := by decide +kernel
theorem d_C_response_32 : decode b_C_response 32 = .ok (.aaload, 1) := by decide +kernel
theorem d_C_response_33 : decode b_C_response 33 = .ok (.getfield 64, 3) := by decide +kernel
theorem d_C_response_36 : decode b_C_response 36 = .ok (.invokevirtual 165, 3) := by decide +kernel
theorem d_C_response_39 : decode b_C_response 39 = .ok (.iadd, 1) := by decide +kernel
theorem d_C_response_40 : decode b_C_response 40 = .ok (.istore_n 2, 1) := by decide +kernel
theorem d_C_response_41 : decode b_C_response 41 = .ok (.iconst 1, 1) := by decide +kernel
theorem d_C_response_42 : decode b_C_response 42 = .ok (.istore_n 3, 1) := by decide +kernel
theorem d_C_response_43 : decode b_C_response 43 = .ok (.iload_n 3, 1) := by decide +kernel
theorem d_C_response_44 : decode b_C_response 44 = .ok (.aload_n 0, 1) := by decide +kernel
theorem d_C_response_45 : decode b_C_response 45 = .ok (.getfield 11, 3) := by decide +kernel
theorem d_C_response_48 : decode b_C_response 48 = .ok (.iload_n 1, 1) := by decide +kernel
theorem d_C_response_49 : decode b_C_response 49 = .ok (.aaload, 1) := by decide +kernel
theorem d_C_response_50 : decode b_C_response 50 = .ok (.getfield 70, 3) := by decide +kernel
theorem d_C_response_53 : decode b_C_response 53 = .ok (.if_icmp .gt 23, 3) := by decide +kernel
theorem d_C_response_56 : decode b_C_response 56 = .ok (.iload_n 2, 1) := by decide +kernel
theorem d_C_response_57 : decode b_C_response 57 = .ok (.aload_n 0, 1) := by decide +kernel
theorem d_C_response_58 : decode b_C_response 58 = .ok (.iload_n 1, 1) := by decide +kernel
theorem d_C_response_59 : decode b_C_response 59 = .ok (.iload_n 3, 1) := by decide +kernel
theorem d_C_response_60 : decode b_C_response 60 = .ok (.invokevirtual 168, 3) := by decide +kernel
theorem d_C_response_63 : decode b_C_response 63 = .ok (.iadd, 1) := by decide +kernel
theorem d_C_response_64 : decode b_C_response 64 = .ok (.iload_n 3, 1) := by decide +kernel
theorem d_C_response_65 : decode b_C_response 65 = .ok (.if_icmp .ne 5, 3) := by decide +kernel
theorem d_C_response_68 : decode b_C_response 68 = .ok (.iload_n 3, 1) := by decide +kernel
theorem d_C_response_69 : decode b_C_response 69 = .ok (.ireturn, 1) := by decide +kernel
theorem d_C_response_70 : decode b_C_response 70 = .ok (.iinc 3 1, 3) := by decide +kernel
theorem d_C_response_73 : decode b_C_response 73 = .ok (.goto (-30), 3) := by decide +kernel
theorem d_C_response_76 : decode b_C_response 76 = .ok (.iconst (-1), 1) := by decide +kernel
theorem d_C_response_77 : decode b_C_response 77 = .ok (.ireturn, 1) := by decide +kernel
theorem d_C_notes_0 : decode b_C_notes 0 = .ok (.aload_n 0, 1) := by decide +kernel
theorem d_C_notes_1 : decode b_C_notes 1 = .ok (.getfield 24, 3) := by decide +kernel
theorem d_C_notes_4 : decode b_C_notes 4 = .ok (.getfield 171, 3) := by decide +kernel
theorem d_C_notes_7 : decode b_C_notes 7 = .ok (.ireturn, 1) := by decide +kernel
theorem d_C_note_0 : decode b_C_note 0 = .ok (.aload_n 0, 1) := by decide +kernel
theorem d_C_note_1 : decode b_C_note 1 = .ok (.getfield 24, 3) := by decide +kernel
theorem d_C_note_4 : decode b_C_note 4 = .ok (.iload_n 1, 1) := by decide +kernel
theorem d_C_note_5 : decode b_C_note 5 = .ok (.invokevirtual 174, 3) := by decide +kernel
theorem d_C_note_8 : decode b_C_note 8 = .ok (.ireturn, 1) := by decide +kernel
theorem d_C_isIn_0 : decode b_C_isIn 0 = .ok (.iload_n 0, 1) := by decide +kernel
theorem d_C_isIn_1 : decode b_C_isIn 1 = .ok (.iload_n 1, 1) := by decide +kernel
theorem d_C_isIn_2 : decode b_C_isIn 2 = .ok (.if_icmp .lt 12, 3) := by decide +kernel
theorem d_C_isIn_5 : decode b_C_isIn 5 = .ok (.iload_n 0, 1) := by decide +kernel
theorem d_C_isIn_6 : decode b_C_isIn 6 = .ok (.iload_n 2, 1) := by decide +kernel
theorem d_C_isIn_7 : decode b_C_isIn 7 = .ok (.if_icmp .gt 7, 3) := by decide +kernel
theorem d_C_isIn_10 : decode b_C_isIn 10 = .ok (.iconst 1, 1) := by decide +kernel
theorem d_C_isIn_11 : decode b_C_isIn 11 = .ok (.goto 4, 3) := by decide +kernel
theorem d_C_isIn_14 : decode b_C_isIn 14 = .ok (.iconst 0, 1) := by decide +kernel
theorem d_C_isIn_15 : decode b_C_isIn 15 = .ok (.ireturn, 1) := by decide +kernel
theorem d_C_isThing_0 : decode b_C_isThing 0 = .ok (.iload_n 0, 1) := by decide +kernel
theorem d_C_isThing_1 : decode b_C_isThing 1 = .ok (.iconst 0, 1) := by decide +kernel
theorem d_C_isThing_2 : decode b_C_isThing 2 = .ok (.iconst 5, 1) := by decide +kernel
theorem d_C_isThing_3 : decode b_C_isThing 3 = .ok (.invokestatic 55, 3) := by decide +kernel
theorem d_C_isThing_6 : decode b_C_isThing 6 = .ok (.ireturn, 1) := by decide +kernel
theorem d_C_isDeclared_0 : decode b_C_isDeclared 0 = .ok (.iload_n 1, 1) := by decide +kernel
theorem d_C_isDeclared_1 : decode b_C_isDeclared 1 = .ok (.iconst 0, 1) := by decide +kernel
theorem d_C_isDeclared_2 : decode b_C_isDeclared 2 = .ok (.bipush 7, 2) := by decide +kernel
theorem d_C_isDeclared_4 : decode b_C_isDeclared 4 = .ok (.invokestatic 55, 3) := by decide +kernel
theorem d_C_isDeclared_7 : decode b_C_isDeclared 7 = .ok (.ifCond .eq 19, 3) := by decide +kernel
theorem d_C_isDeclared_10 : decode b_C_isDeclared 10 = .ok (.aload_n 0, 1) := by decide +kernel
theorem d_C_isDeclared_11 : decode b_C_isDeclared 11 = .ok (.getfield 11, 3) := by decide +kernel
theorem d_C_isDeclared_14 : decode b_C_isDeclared 14 = .ok (.iload_n 1, 1) := by decide +kernel
theorem d_C_isDeclared_15 : decode b_C_isDeclared 15 = .ok (.aaload, 1) := by decide +kernel
theorem d_C_isDeclared_16 : decode b_C_isDeclared 16 = .ok (.invokevirtual 177, 3) := by decide +kernel
theorem d_C_isDeclared_19 : decode b_C_isDeclared 19 = .ok (.ifCond .eq 7, 3) := by decide +kernel
theorem d_C_isDeclared_22 : decode b_C_isDeclared 22 = .ok (.iconst 1, 1) := by decide +kernel
theorem d_C_isDeclared_23 : decode b_C_isDeclared 23 = .ok (.goto 4, 3) := by decide +kernel
theorem d_C_isDeclared_26 : decode b_C_isDeclared 26 = .ok (.iconst 0, 1) := by decide +kernel
theorem d_C_isDeclared_27 : decode b_C_isDeclared 27 = .ok (.ireturn, 1) := by decide +kernel
theorem d_C_isReady_0 : decode b_C_isReady 0 = .ok (.iload_n 1, 1) := by decide +kernel
theorem d_C_isReady_1 : decode b_C_isReady 1 = .ok (.iconst 0, 1) := by decide +kernel
theorem d_C_isReady_2 : decode b_C_isReady 2 = .ok (.bipush 7, 2) := by decide +kernel
theorem d_C_isReady_4 : decode b_C_isReady 4 = .ok (.invokestatic 55, 3) := by decide +kernel
theorem d_C_isReady_7 : decode b_C_isReady 7 = .ok (.ifCond .eq 19, 3) := by decide +kernel
theorem d_C_isReady_10 : decode b_C_isReady 10 = .ok (.aload_n 0, 1) := by decide +kernel
theorem d_C_isReady_11 : decode b_C_isReady 11 = .ok (.getfield 11, 3) := by decide +kernel
theorem d_C_isReady_14 : decode b_C_isReady 14 = .ok (.iload_n 1, 1) := by decide +kernel
theorem d_C_isReady_15 : decode b_C_isReady 15 = .ok (.aaload, 1) := by decide +kernel
theorem d_C_isReady_16 : decode b_C_isReady 16 = .ok (.getfield 146, 3) := by decide +kernel
theorem d_C_isReady_19 : decode b_C_isReady 19 = .ok (.ifCond .eq 7, 3) := by decide +kernel
theorem d_C_isReady_22 : decode b_C_isReady 22 = .ok (.iconst 1, 1) := by decide +kernel
theorem d_C_isReady_23 : decode b_C_isReady 23 = .ok (.goto 4, 3) := by decide +kernel
theorem d_C_isReady_26 : decode b_C_isReady 26 = .ok (.iconst 0, 1) := by decide +kernel
theorem d_C_isReady_27 : decode b_C_isReady 27 = .ok (.ireturn, 1) := by decide +kernel
theorem d_C_isHeld_0 : decode b_C_isHeld 0 = .ok (.iload_n 1, 1) := by decide +kernel
theorem d_C_isHeld_1 : decode b_C_isHeld 1 = .ok (.invokestatic 74, 3) := by decide +kernel
theorem d_C_isHeld_4 : decode b_C_isHeld 4 = .ok (.ifCond .eq 20, 3) := by decide +kernel
theorem d_C_isHeld_7 : decode b_C_isHeld 7 = .ok (.aload_n 0, 1) := by decide +kernel
theorem d_C_isHeld_8 : decode b_C_isHeld 8 = .ok (.getfield 17, 3) := by decide +kernel
theorem d_C_isHeld_11 : decode b_C_isHeld 11 = .ok (.iload_n 1, 1) := by decide +kernel
theorem d_C_isHeld_12 : decode b_C_isHeld 12 = .ok (.aaload, 1) := by decide +kernel
theorem d_C_isHeld_13 : decode b_C_isHeld 13 = .ok (.getfield 119, 3) := by decide +kernel
theorem d_C_isHeld_16 : decode b_C_isHeld 16 = .ok (.iconst (-1), 1) := by decide +kernel
theorem d_C_isHeld_17 : decode b_C_isHeld 17 = .ok (.if_icmp .eq 7, 3) := by decide +kernel
theorem d_C_isHeld_20 : decode b_C_isHeld 20 = .ok (.iconst 1, 1) := by decide +kernel
theorem d_C_isHeld_21 : decode b_C_isHeld 21 = .ok (.goto 4, 3) := by decide +kernel
theorem d_C_isHeld_24 : decode b_C_isHeld 24 = .ok (.iconst 0, 1) := by decide +kernel
theorem d_C_isHeld_25 : decode b_C_isHeld 25 = .ok (.ireturn, 1) := by decide +kernel
theorem d_C_countDeclared_0 : decode b_C_countDeclared 0 = .ok (.iconst 0, 1) := by decide +kernel
theorem d_C_countDeclared_1 : decode b_C_countDeclared 1 = .ok (.istore_n 1, 1) := by decide +kernel
theorem d_C_countDeclared_2 : decode b_C_countDeclared 2 = .ok (.iconst 0, 1) := by decide +kernel
theorem d_C_countDeclared_3 : decode b_C_countDeclared 3 = .ok (.istore_n 2, 1) := by decide +kernel
theorem d_C_countDeclared_4 : decode b_C_countDeclared 4 = .ok (.iload_n 2, 1) := by decide +kernel
theorem d_C_countDeclared_5 : decode b_C_countDeclared 5 = .ok (.bipush 8, 2) := by decide +kernel
theorem d_C_countDeclared_7 : decode b_C_countDeclared 7 = .ok (.if_icmp .ge 24, 3) := by decide +kernel
theorem d_C_countDeclared_10 : decode b_C_countDeclared 10 = .ok (.aload_n 0, 1) := by decide +kernel
theorem d_C_countDeclared_11 : decode b_C_countDeclared 11 = .ok (.getfield 11, 3) := by decide +kernel
theorem d_C_countDeclared_14 : decode b_C_countDeclared 14 = .ok (.iload_n 2, 1) := by decide +kernel
theorem d_C_countDeclared_15 : decode b_C_countDeclared 15 = .ok (.aaload, 1) := by decide +kernel
theorem d_C_countDeclared_16 : decode b_C_countDeclared 16 = .ok (.invokevirtual 177, 3) := by decide +kernel
theorem d_C_countDeclared_19 : decode b_C_countDeclared 19 = .ok (.ifCond .eq 6, 3) := by decide +kernel
theorem d_C_countDeclared_22 : decode b_C_countDeclared 22 = .ok (.iinc 1 1, 3) := by decide +kernel
theorem d_C_countDeclared_25 : decode b_C_countDeclared 25 = .ok (.iinc 2 1, 3) := by decide +kernel
theorem d_C_countDeclared_28 : decode b_C_countDeclared 28 = .ok (.goto (-24), 3) := by decide +kernel
theorem d_C_countDeclared_31 : decode b_C_countDeclared 31 = .ok (.iload_n 1, 1) := by decide +kernel
theorem d_C_countDeclared_32 : decode b_C_countDeclared 32 = .ok (.ireturn, 1) := by decide +kernel
theorem d_C_greatestBaseOfUsers_0 : decode b_C_greatestBaseOfUsers 0 = .ok (.iconst 0, 1) := by decide +kernel
theorem d_C_greatestBaseOfUsers_1 : decode b_C_greatestBaseOfUsers 1 = .ok (.istore_n 2, 1) := by decide +kernel
theorem d_C_greatestBaseOfUsers_2 : decode b_C_greatestBaseOfUsers 2 = .ok (.iconst 0, 1) := by decide +kernel
theorem d_C_greatestBaseOfUsers_3 : decode b_C_greatestBaseOfUsers 3 = .ok (.istore_n 3, 1) := by decide +kernel
theorem d_C_greatestBaseOfUsers_4 : decode b_C_greatestBaseOfUsers 4 = .ok (.iload_n 3, 1) := by decide +kernel
theorem d_C_greatestBaseOfUsers_5 : decode b_C_greatestBaseOfUsers 5 = .ok (.bipush 8, 2) := by decide +kernel
theorem d_C_greatestBaseOfUsers_7 : decode b_C_greatestBaseOfUsers 7 = .ok (.if_icmp .ge 36, 3) := by decide +kernel
theorem d_C_greatestBaseOfUsers_10 : decode b_C_greatestBaseOfUsers 10 = .ok (.aload_n 0, 1) := by decide +kernel
theorem d_C_greatestBaseOfUsers_11 : decode b_C_greatestBaseOfUsers 11 = .ok (.getfield 11, 3) := by decide +kernel
theorem d_C_greatestBaseOfUsers_14 : decode b_C_greatestBaseOfUsers 14 = .ok (.iload_n 3, 1) := by decide +kernel
theorem d_C_greatestBaseOfUsers_15 : decode b_C_greatestBaseOfUsers 15 = .ok (.aaload, 1) := by decide +kernel
theorem d_C_greatestBaseOfUsers_16 : decode b_C_greatestBaseOfUsers 16 = .ok (.iload_n 1, 1) := by decide +kernel
theorem d_C_greatestBaseOfUsers_17 : decode b_C_greatestBaseOfUsers 17 = .ok (.invokevirtual 114, 3) := by decide +kernel
theorem d_C_greatestBaseOfUsers_20 : decode b_C_greatestBaseOfUsers 20 = .ok (.ifCond .eq 17, 3) := by decide +kernel
theorem d_C_greatestBaseOfUsers_23 : decode b_C_greatestBaseOfUsers 23 = .ok (.iload_n 2, 1) := by decide +kernel
theorem d_C_greatestBaseOfUsers_24 : decode b_C_greatestBaseOfUsers 24 = .ok (.aload_n 0, 1) := by decide +kernel
theorem d_C_greatestBaseOfUsers_25 : decode b_C_greatestBaseOfUsers 25 = .ok (.getfield 11, 3) := by decide +kernel
theorem d_C_greatestBaseOfUsers_28 : decode b_C_greatestBaseOfUsers 28 = .ok (.iload_n 3, 1) := by decide +kernel
theorem d_C_greatestBaseOfUsers_29 : decode b_C_greatestBaseOfUsers 29 = .ok (.aaload, 1) := by decide +kernel
theorem d_C_greatestBaseOfUsers_30 : decode b_C_greatestBaseOfUsers 30 = .ok (.getfield 64, 3) := by decide +kernel
theorem d_C_greatestBaseOfUsers_33 : decode b_C_greatestBaseOfUsers 33 = .ok (.invokestatic 134, 3) := by decide +kernel
theorem d_C_greatestBaseOfUsers_36 : decode b_C_greatestBaseOfUsers 36 = .ok (.istore_n 2, 1) := by decide +kernel
theorem d_C_greatestBaseOfUsers_37 : decode b_C_greatestBaseOfUsers 37 = .ok (.iinc 3 1, 3) := by decide +kernel
theorem d_C_greatestBaseOfUsers_40 : decode b_C_greatestBaseOfUsers 40 = .ok (.goto (-36), 3) := by decide +kernel
theorem d_C_greatestBaseOfUsers_43 : decode b_C_greatestBaseOfUsers 43 = .ok (.iload_n 2, 1) := by decide +kernel
theorem d_C_greatestBaseOfUsers_44 : decode b_C_greatestBaseOfUsers 44 = .ok (.ireturn, 1) := by decide +kernel
theorem d_C_happened_0 : decode b_C_happened 0 = .ok (.aload_n 0, 1) := by decide +kernel
theorem d_C_happened_1 : decode b_C_happened 1 = .ok (.getfield 24, 3) := by decide +kernel
theorem d_C_happened_4 : decode b_C_happened 4 = .ok (.iload_n 1, 1) := by decide +kernel
theorem d_C_happened_5 : decode b_C_happened 5 = .ok (.iload_n 2, 1) := by decide +kernel
theorem d_C_happened_6 : decode b_C_happened 6 = .ok (.iload_n 3, 1) := by decide +kernel
theorem d_C_happened_7 : decode b_C_happened 7 = .ok (.aload_n 0, 1) := by decide +kernel
theorem d_C_happened_8 : decode b_C_happened 8 = .ok (.getfield 32, 3) := by decide +kernel
theorem d_C_happened_11 : decode b_C_happened 11 = .ok (.invokevirtual 180, 3) := by decide +kernel
theorem d_C_happened_14 : decode b_C_happened 14 = .ok (.aload_n 0, 1) := by decide +kernel
theorem d_C_happened_15 : decode b_C_happened 15 = .ok (.invokevirtual 184, 3) := by decide +kernel
theorem d_C_happened_18 : decode b_C_happened 18 = .ok (.istore 4, 2) := by decide +kernel
theorem d_C_happened_20 : decode b_C_happened 20 = .ok (.iload 4, 2) := by decide +kernel
theorem d_C_happened_22 : decode b_C_happened 22 = .ok (.aload_n 0, 1) := by decide +kernel
theorem d_C_happened_23 : decode b_C_happened 23 = .ok (.getfield 39, 3) := by decide +kernel
theorem d_C_happened_26 : decode b_C_happened 26 = .ok (.if_icmp .eq 36, 3) := by decide +kernel
theorem d_C_happened_29 : decode b_C_happened 29 = .ok (.aload_n 0, 1) := by decide +kernel
theorem d_C_happened_30 : decode b_C_happened 30 = .ok (.iload 4, 2) := by decide +kernel
theorem d_C_happened_32 : decode b_C_happened 32 = .ok (.putfield 39, 3) := by decide +kernel
theorem d_C_happened_35 : decode b_C_happened 35 = .ok (.aload_n 0, 1) := by decide +kernel
theorem d_C_happened_36 : decode b_C_happened 36 = .ok (.getfield 24, 3) := by decide +kernel
theorem d_C_happened_39 : decode b_C_happened 39 = .ok (.iconst 5, 1) := by decide +kernel
theorem d_C_happened_40 : decode b_C_happened 40 = .ok (.iload 4, 2) := by decide +kernel
theorem d_C_happened_42 : decode b_C_happened 42 = .ok (.iconst (-1), 1) := by decide +kernel
theorem d_C_happened_43 : decode b_C_happened 43 = .ok (.if_icmp .ne 8, 3) := by decide +kernel
theorem d_C_happened_46 : decode b_C_happened 46 = .ok (.bipush 8, 2) := by decide +kernel
theorem d_C_happened_48 : decode b_C_happened 48 = .ok (.goto 5, 3) := by decide +kernel
theorem d_C_happened_51 : decode b_C_happened 51 = .ok (.iload 4, 2) := by decide +kernel
theorem d_C_happened_53 : decode b_C_happened 53 = .ok (.bipush 15, 2) := by decide +kernel
theorem d_C_happened_55 : decode b_C_happened 55 = .ok (.aload_n 0, 1) := by decide +kernel
theorem d_C_happened_56 : decode b_C_happened 56 = .ok (.getfield 32, 3) := by decide +kernel
theorem d_C_happened_59 : decode b_C_happened 59 = .ok (.invokevirtual 180, 3) := by decide +kernel
theorem d_C_happened_62 : decode b_C_happened 62 = .ok (.return_, 1) := by decide +kernel
theorem d_C_mostUrgent_0 : decode b_C_mostUrgent 0 = .ok (.iconst (-1), 1) := by decide +kernel
theorem d_C_mostUrgent_1 : decode b_C_mostUrgent 1 = .ok (.istore_n 1, 1) := by decide +kernel
theorem d_C_mostUrgent_2 : decode b_C_mostUrgent 2 = .ok (.iconst 0, 1) := by decide +kernel
theorem d_C_mostUrgent_3 : decode b_C_mostUrgent 3 = .ok (.istore_n 2, 1) := by decide +kernel
theorem d_C_mostUrgent_4 : decode b_C_mostUrgent 4 = .ok (.iload_n 2, 1) := by decide +kernel
theorem d_C_mostUrgent_5 : decode b_C_mostUrgent 5 = .ok (.bipush 8, 2) := by decide +kernel
theorem d_C_mostUrgent_7 : decode b_C_mostUrgent 7 = .ok (.if_icmp .ge 46, 3) := by decide +kernel
theorem d_C_mostUrgent_10 : decode b_C_mostUrgent 10 = .ok (.aload_n 0, 1) := by decide +kernel
theorem d_C_mostUrgent_11 : decode b_C_mostUrgent 11 = .ok (.getfield 11, 3) := by decide +kernel
theorem d_C_mostUrgent_14 : decode b_C_mostUrgent 14 = .ok (.iload_n 2, 1) := by decide +kernel
theorem d_C_mostUrgent_15 : decode b_C_mostUrgent 15 = .ok (.aaload, 1) := by decide +kernel
theorem d_C_mostUrgent_16 : decode b_C_mostUrgent 16 = .ok (.getfield 146, 3) := by decide +kernel
theorem d_C_mostUrgent_19 : decode b_C_mostUrgent 19 = .ok (.ifCond .eq 28, 3) := by decide +kernel
theorem d_C_mostUrgent_22 : decode b_C_mostUrgent 22 = .ok (.iload_n 1, 1) := by decide +kernel
theorem d_C_mostUrgent_23 : decode b_C_mostUrgent 23 = .ok (.iconst (-1), 1) := by decide +kernel
theorem d_C_mostUrgent_24 : decode b_C_mostUrgent 24 = .ok (.if_icmp .eq 21, 3) := by decide +kernel
theorem d_C_mostUrgent_27 : decode b_C_mostUrgent 27 = .ok (.aload_n 0, 1) := by decide +kernel
theorem d_C_mostUrgent_28 : decode b_C_mostUrgent 28 = .ok (.getfield 11, 3) := by decide +kernel
theorem d_C_mostUrgent_31 : decode b_C_mostUrgent 31 = .ok (.iload_n 2, 1) := by decide +kernel
theorem d_C_mostUrgent_32 : decode b_C_mostUrgent 32 = .ok (.aaload, 1) := by decide +kernel
theorem d_C_mostUrgent_33 : decode b_C_mostUrgent 33 = .ok (.aload_n 0, 1) := by decide +kernel
theorem d_C_mostUrgent_34 : decode b_C_mostUrgent 34 = .ok (.getfield 11, 3) := by decide +kernel
theorem d_C_mostUrgent_37 : decode b_C_mostUrgent 37 = .ok (.iload_n 1, 1) := by decide +kernel
theorem d_C_mostUrgent_38 : decode b_C_mostUrgent 38 = .ok (.aaload, 1) := by decide +kernel
theorem d_C_mostUrgent_39 : decode b_C_mostUrgent 39 = .ok (.invokevirtual 158, 3) := by decide +kernel
theorem d_C_mostUrgent_42 : decode b_C_mostUrgent 42 = .ok (.ifCond .eq 5, 3) := by decide +kernel
theorem d_C_mostUrgent_45 : decode b_C_mostUrgent 45 = .ok (.iload_n 2, 1) := by decide +kernel
theorem d_C_mostUrgent_46 : decode b_C_mostUrgent 46 = .ok (.istore_n 1, 1) := by decide +kernel
theorem d_C_mostUrgent_47 : decode b_C_mostUrgent 47 = .ok (.iinc 2 1, 3) := by decide +kernel
theorem d_C_mostUrgent_50 : decode b_C_mostUrgent 50 = .ok (.goto (-46), 3) := by decide +kernel
theorem d_C_mostUrgent_53 : decode b_C_mostUrgent 53 = .ok (.iload_n 1, 1) := by decide +kernel
theorem d_C_mostUrgent_54 : decode b_C_mostUrgent 54 = .ok (.ireturn, 1) := by decide +kernel
theorem d_C_delayMoreUrgentThan_0 : decode b_C_delayMoreUrgentThan 0 = .ok (.iconst 0, 1) := by decide +kernel
theorem d_C_delayMoreUrgentThan_1 : decode b_C_delayMoreUrgentThan 1 = .ok (.istore_n 3, 1) := by decide +kernel
theorem d_C_delayMoreUrgentThan_2 : decode b_C_delayMoreUrgentThan 2 = .ok (.iload_n 3, 1) := by decide +kernel
theorem d_C_delayMoreUrgentThan_3 : decode b_C_delayMoreUrgentThan 3 = .ok (.bipush 8, 2) := by decide +kernel
theorem d_C_delayMoreUrgentThan_5 : decode b_C_delayMoreUrgentThan 5 = .ok (.if_icmp .ge 49, 3) := by decide +kernel
theorem d_C_delayMoreUrgentThan_8 : decode b_C_delayMoreUrgentThan 8 = .ok (.aload_n 0, 1) := by decide +kernel
theorem d_C_delayMoreUrgentThan_9 : decode b_C_delayMoreUrgentThan 9 = .ok (.getfield 11, 3) := by decide +kernel
theorem d_C_delayMoreUrgentThan_12 : decode b_C_delayMoreUrgentThan 12 = .ok (.iload_n 3, 1) := by decide +kernel
theorem d_C_delayMoreUrgentThan_13 : decode b_C_delayMoreUrgentThan 13 = .ok (.aaload, 1) := by decide +kernel
theorem d_C_delayMoreUrgentThan_14 : decode b_C_delayMoreUrgentThan 14 = .ok (.getfield 146, 3) := by decide +kernel
theorem d_C_delayMoreUrgentThan_17 : decode b_C_delayMoreUrgentThan 17 = .ok (.ifCond .eq 31, 3) := by decide +kernel
theorem d_C_delayMoreUrgentThan_20 : decode b_C_delayMoreUrgentThan 20 = .ok (.aload_n 0, 1) := by decide +kernel
theorem d_C_delayMoreUrgentThan_21 : decode b_C_delayMoreUrgentThan 21 = .ok (.getfield 11, 3) := by decide +kernel
theorem d_C_delayMoreUrgentThan_24 : decode b_C_delayMoreUrgentThan 24 = .ok (.iload_n 3, 1) := by decide +kernel
theorem d_C_delayMoreUrgentThan_25 : decode b_C_delayMoreUrgentThan 25 = .ok (.aaload, 1) := by decide +kernel
theorem d_C_delayMoreUrgentThan_26 : decode b_C_delayMoreUrgentThan 26 = .ok (.getfield 64, 3) := by decide +kernel
theorem d_C_delayMoreUrgentThan_29 : decode b_C_delayMoreUrgentThan 29 = .ok (.iload_n 1, 1) := by decide +kernel
theorem d_C_delayMoreUrgentThan_30 : decode b_C_delayMoreUrgentThan 30 = .ok (.if_icmp .le 18, 3) := by decide +kernel
theorem d_C_delayMoreUrgentThan_33 : decode b_C_delayMoreUrgentThan 33 = .ok (.aload_n 0, 1) := by decide +kernel
theorem d_C_delayMoreUrgentThan_34 : decode b_C_delayMoreUrgentThan 34 = .ok (.getfield 11, 3) := by decide +kernel
theorem d_C_delayMoreUrgentThan_37 : decode b_C_delayMoreUrgentThan 37 = .ok (.iload_n 3, 1) := by decide +kernel
theorem d_C_delayMoreUrgentThan_38 : decode b_C_delayMoreUrgentThan 38 = .ok (.aaload, 1) := by decide +kernel
theorem d_C_delayMoreUrgentThan_39 : decode b_C_delayMoreUrgentThan 39 = .ok (.dup, 1) := by decide +kernel
theorem d_C_delayMoreUrgentThan_40 : decode b_C_delayMoreUrgentThan 40 = .ok (.getfield 162, 3) := by decide +kernel
theorem d_C_delayMoreUrgentThan_43 : decode b_C_delayMoreUrgentThan 43 = .ok (.iload_n 2, 1) := by decide +kernel
theorem d_C_delayMoreUrgentThan_44 : decode b_C_delayMoreUrgentThan 44 = .ok (.iadd, 1) := by decide +kernel
theorem d_C_delayMoreUrgentThan_45 : decode b_C_delayMoreUrgentThan 45 = .ok (.putfield 162, 3) := by decide +kernel
theorem d_C_delayMoreUrgentThan_48 : decode b_C_delayMoreUrgentThan 48 = .ok (.iinc 3 1, 3) := by decide +kernel
theorem d_C_delayMoreUrgentThan_51 : decode b_C_delayMoreUrgentThan 51 = .ok (.goto (-49), 3) := by decide +kernel
theorem d_C_delayMoreUrgentThan_54 : decode b_C_delayMoreUrgentThan 54 = .ok (.return_, 1) := by decide +kernel
theorem d_C_longestBlockingAt_0 : decode b_C_longestBlockingAt 0 = .ok (.iconst 0, 1) := by decide +kernel
theorem d_C_longestBlockingAt_1 : decode b_C_longestBlockingAt 1 = .ok (.istore_n 2, 1) := by decide +kernel
theorem d_C_longestBlockingAt_2 : decode b_C_longestBlockingAt 2 = .ok (.iconst 0, 1) := by decide +kernel
theorem d_C_longestBlockingAt_3 : decode b_C_longestBlockingAt 3 = .ok (.istore_n 3, 1) := by decide +kernel
theorem d_C_longestBlockingAt_4 : decode b_C_longestBlockingAt 4 = .ok (.iload_n 3, 1) := by decide +kernel
theorem d_C_longestBlockingAt_5 : decode b_C_longestBlockingAt 5 = .ok (.bipush 8, 2) := by decide +kernel
theorem d_C_longestBlockingAt_7 : decode b_C_longestBlockingAt 7 = .ok (.if_icmp .ge 38, 3) := by decide +kernel
theorem d_C_longestBlockingAt_10 : decode b_C_longestBlockingAt 10 = .ok (.aload_n 0, 1) := by decide +kernel
theorem d_C_longestBlockingAt_11 : decode b_C_longestBlockingAt 11 = .ok (.getfield 11, 3) := by decide +kernel
theorem d_C_longestBlockingAt_14 : decode b_C_longestBlockingAt 14 = .ok (.iload_n 3, 1) := by decide +kernel
theorem d_C_longestBlockingAt_15 : decode b_C_longestBlockingAt 15 = .ok (.aaload, 1) := by decide +kernel
theorem d_C_longestBlockingAt_16 : decode b_C_longestBlockingAt 16 = .ok (.getfield 64, 3) := by decide +kernel
theorem d_C_longestBlockingAt_19 : decode b_C_longestBlockingAt 19 = .ok (.iload_n 1, 1) := by decide +kernel
theorem d_C_longestBlockingAt_20 : decode b_C_longestBlockingAt 20 = .ok (.if_icmp .ge 19, 3) := by decide +kernel
theorem d_C_longestBlockingAt_23 : decode b_C_longestBlockingAt 23 = .ok (.iload_n 2, 1) := by decide +kernel
theorem d_C_longestBlockingAt_24 : decode b_C_longestBlockingAt 24 = .ok (.aload_n 0, 1) := by decide +kernel
theorem d_C_longestBlockingAt_25 : decode b_C_longestBlockingAt 25 = .ok (.aload_n 0, 1) := by decide +kernel
theorem d_C_longestBlockingAt_26 : decode b_C_longestBlockingAt 26 = .ok (.getfield 11, 3) := by decide +kernel
theorem d_C_longestBlockingAt_29 : decode b_C_longestBlockingAt 29 = .ok (.iload_n 3, 1) := by decide +kernel
theorem d_C_longestBlockingAt_30 : decode b_C_longestBlockingAt 30 = .ok (.aaload, 1) := by decide +kernel
theorem d_C_longestBlockingAt_31 : decode b_C_longestBlockingAt 31 = .ok (.iload_n 1, 1) := by decide +kernel
theorem d_C_longestBlockingAt_32 : decode b_C_longestBlockingAt 32 = .ok (.invokevirtual 187, 3) := by decide +kernel
theorem d_C_longestBlockingAt_35 : decode b_C_longestBlockingAt 35 = .ok (.invokestatic 134, 3) := by decide +kernel
theorem d_C_longestBlockingAt_38 : decode b_C_longestBlockingAt 38 = .ok (.istore_n 2, 1) := by decide +kernel
theorem d_C_longestBlockingAt_39 : decode b_C_longestBlockingAt 39 = .ok (.iinc 3 1, 3) := by decide +kernel
theorem d_C_longestBlockingAt_42 : decode b_C_longestBlockingAt 42 = .ok (.goto (-38), 3) := by decide +kernel
theorem d_C_longestBlockingAt_45 : decode b_C_longestBlockingAt 45 = .ok (.iload_n 2, 1) := by decide +kernel
theorem d_C_longestBlockingAt_46 : decode b_C_longestBlockingAt 46 = .ok (.ireturn, 1) := by decide +kernel
theorem d_C_longestUseOfCeiling_0 : decode b_C_longestUseOfCeiling 0 = .ok (.iconst 0, 1) := by decide +kernel
theorem d_C_longestUseOfCeiling_1 : decode b_C_longestUseOfCeiling 1 = .ok (.istore_n 3, 1) := by decide +kernel
theorem d_C_longestUseOfCeiling_2 : decode b_C_longestUseOfCeiling 2 = .ok (.iconst 0, 1) := by decide +kernel
theorem d_C_longestUseOfCeiling_3 : decode b_C_longestUseOfCeiling 3 = .ok (.istore 4, 2) := by decide +kernel
theorem d_C_longestUseOfCeiling_5 : decode b_C_longestUseOfCeiling 5 = .ok (.iload 4, 2) := by decide +kernel
theorem d_C_longestUseOfCeiling_7 : decode b_C_longestUseOfCeiling 7 = .ok (.bipush 6, 2) := by decide +kernel
theorem d_C_longestUseOfCeiling_9 : decode b_C_longestUseOfCeiling 9 = .ok (.if_icmp .ge 35, 3) := by decide +kernel
theorem d_C_longestUseOfCeiling_12 : decode b_C_longestUseOfCeiling 12 = .ok (.aload_n 0, 1) := by decide +kernel
theorem d_C_longestUseOfCeiling_13 : decode b_C_longestUseOfCeiling 13 = .ok (.getfield 17, 3) := by decide +kernel
theorem d_C_longestUseOfCeiling_16 : decode b_C_longestUseOfCeiling 16 = .ok (.iload 4, 2) := by decide +kernel
theorem d_C_longestUseOfCeiling_18 : decode b_C_longestUseOfCeiling 18 = .ok (.aaload, 1) := by decide +kernel
theorem d_C_longestUseOfCeiling_19 : decode b_C_longestUseOfCeiling 19 = .ok (.getfield 87, 3) := by decide +kernel
theorem d_C_longestUseOfCeiling_22 : decode b_C_longestUseOfCeiling 22 = .ok (.iload_n 2, 1) := by decide +kernel
theorem d_C_longestUseOfCeiling_23 : decode b_C_longestUseOfCeiling 23 = .ok (.if_icmp .lt 15, 3) := by decide +kernel
theorem d_C_longestUseOfCeiling_26 : decode b_C_longestUseOfCeiling 26 = .ok (.iload_n 3, 1) := by decide +kernel
theorem d_C_longestUseOfCeiling_27 : decode b_C_longestUseOfCeiling 27 = .ok (.aload_n 1, 1) := by decide +kernel
theorem d_C_longestUseOfCeiling_28 : decode b_C_longestUseOfCeiling 28 = .ok (.getfield 79, 3) := by decide +kernel
theorem d_C_longestUseOfCeiling_31 : decode b_C_longestUseOfCeiling 31 = .ok (.iload 4, 2) := by decide +kernel
theorem d_C_longestUseOfCeiling_33 : decode b_C_longestUseOfCeiling 33 = .ok (.iaload, 1) := by decide +kernel
theorem d_C_longestUseOfCeiling_34 : decode b_C_longestUseOfCeiling 34 = .ok (.invokestatic 134, 3) := by decide +kernel
theorem d_C_longestUseOfCeiling_37 : decode b_C_longestUseOfCeiling 37 = .ok (.istore_n 3, 1) := by decide +kernel
theorem d_C_longestUseOfCeiling_38 : decode b_C_longestUseOfCeiling 38 = .ok (.iinc 4 1, 3) := by decide +kernel
theorem d_C_longestUseOfCeiling_41 : decode b_C_longestUseOfCeiling 41 = .ok (.goto (-36), 3) := by decide +kernel
theorem d_C_longestUseOfCeiling_44 : decode b_C_longestUseOfCeiling 44 = .ok (.iload_n 3, 1) := by decide +kernel
theorem d_C_longestUseOfCeiling_45 : decode b_C_longestUseOfCeiling 45 = .ok (.ireturn, 1) := by decide +kernel
theorem d_C_demandOfOthers_0 : decode b_C_demandOfOthers 0 = .ok (.iconst 0, 1) := by decide +kernel
theorem d_C_demandOfOthers_1 : decode b_C_demandOfOthers 1 = .ok (.istore_n 3, 1) := by decide +kernel
theorem d_C_demandOfOthers_2 : decode b_C_demandOfOthers 2 = .ok (.iconst 0, 1) := by decide +kernel
theorem d_C_demandOfOthers_3 : decode b_C_demandOfOthers 3 = .ok (.istore 4, 2) := by decide +kernel
theorem d_C_demandOfOthers_5 : decode b_C_demandOfOthers 5 = .ok (.iload 4, 2) := by decide +kernel
theorem d_C_demandOfOthers_7 : decode b_C_demandOfOthers 7 = .ok (.bipush 8, 2) := by decide +kernel
theorem d_C_demandOfOthers_9 : decode b_C_demandOfOthers 9 = .ok (.if_icmp .ge 51, 3) := by decide +kernel
theorem d_C_demandOfOthers_12 : decode b_C_demandOfOthers 12 = .ok (.iload 4, 2) := by decide +kernel
theorem d_C_demandOfOthers_14 : decode b_C_demandOfOthers 14 = .ok (.iload_n 1, 1) := by decide +kernel
theorem d_C_demandOfOthers_15 : decode b_C_demandOfOthers 15 = .ok (.if_icmp .eq 39, 3) := by decide +kernel
theorem d_C_demandOfOthers_18 : decode b_C_demandOfOthers 18 = .ok (.aload_n 0, 1) := by decide +kernel
theorem d_C_demandOfOthers_19 : decode b_C_demandOfOthers 19 = .ok (.getfield 11, 3) := by decide +kernel
theorem d_C_demandOfOthers_22 : decode b_C_demandOfOthers 22 = .ok (.iload 4, 2) := by decide +kernel
theorem d_C_demandOfOthers_24 : decode b_C_demandOfOthers 24 = .ok (.aaload, 1) := by decide +kernel
theorem d_C_demandOfOthers_25 : decode b_C_demandOfOthers 25 = .ok (.getfield 64, 3) := by decide +kernel
theorem d_C_demandOfOthers_28 : decode b_C_demandOfOthers 28 = .ok (.aload_n 0, 1) := by decide +kernel
theorem d_C_demandOfOthers_29 : decode b_C_demandOfOthers 29 = .ok (.getfield 11, 3) := by decide +kernel
theorem d_C_demandOfOthers_32 : decode b_C_demandOfOthers 32 = .ok (.iload_n 1, 1) := by decide +kernel
theorem d_C_demandOfOthers_33 : decode b_C_demandOfOthers 33 = .ok (.aaload, 1) := by decide +kernel
theorem d_C_demandOfOthers_34 : decode b_C_demandOfOthers 34 = .ok (.getfield 64, 3) := by decide +kernel
theorem d_C_demandOfOthers_37 : decode b_C_demandOfOthers 37 = .ok (.if_icmp .lt 17, 3) := by decide +kernel
theorem d_C_demandOfOthers_40 : decode b_C_demandOfOthers 40 = .ok (.iload_n 3, 1) := by decide +kernel
theorem d_C_demandOfOthers_41 : decode b_C_demandOfOthers 41 = .ok (.aload_n 0, 1) := by decide +kernel
theorem d_C_demandOfOthers_42 : decode b_C_demandOfOthers 42 = .ok (.getfield 11, 3) := by decide +kernel
theorem d_C_demandOfOthers_45 : decode b_C_demandOfOthers 45 = .ok (.iload 4, 2) := by decide +kernel
theorem d_C_demandOfOthers_47 : decode b_C_demandOfOthers 47 = .ok (.aaload, 1) := by decide +kernel
theorem d_C_demandOfOthers_48 : decode b_C_demandOfOthers 48 = .ok (.iload_n 2, 1) := by decide +kernel
theorem d_C_demandOfOthers_49 : decode b_C_demandOfOthers 49 = .ok (.invokevirtual 191, 3) := by decide +kernel
theorem d_C_demandOfOthers_52 : decode b_C_demandOfOthers 52 = .ok (.iadd, 1) := by decide +kernel
theorem d_C_demandOfOthers_53 : decode b_C_demandOfOthers 53 = .ok (.istore_n 3, 1) := by decide +kernel
theorem d_C_demandOfOthers_54 : decode b_C_demandOfOthers 54 = .ok (.iinc 4 1, 3) := by decide +kernel
theorem d_C_demandOfOthers_57 : decode b_C_demandOfOthers 57 = .ok (.goto (-52), 3) := by decide +kernel
theorem d_C_demandOfOthers_60 : decode b_C_demandOfOthers 60 = .ok (.iload_n 3, 1) := by decide +kernel
theorem d_C_demandOfOthers_61 : decode b_C_demandOfOthers 61 = .ok (.ireturn, 1) := by decide +kernel
theorem d_T_init_0 : decode b_T_init 0 = .ok (.aload_n 0, 1) := by decide +kernel
theorem d_T_init_1 : decode b_T_init 1 = .ok (.invokespecial 3, 3) := by decide +kernel
theorem d_T_init_4 : decode b_T_init 4 = .ok (.aload_n 0, 1) := by decide +kernel
theorem d_T_init_5 : decode b_T_init 5 = .ok (.iconst 0, 1) := by decide +kernel
theorem d_T_init_6 : decode b_T_init 6 = .ok (.putfield 9, 3) := by decide +kernel
theorem d_T_init_9 : decode b_T_init 9 = .ok (.aload_n 0, 1) := by decide +kernel
theorem d_T_init_10 : decode b_T_init 10 = .ok (.iconst 0, 1) := by decide +kernel
theorem d_T_init_11 : decode b_T_init 11 = .ok (.putfield 15, 3) := by decide +kernel
theorem d_T_init_14 : decode b_T_init 14 = .ok (.aload_n 0, 1) := by decide +kernel
theorem d_T_init_15 : decode b_T_init 15 = .ok (.iconst 0, 1) := by decide +kernel
theorem d_T_init_16 : decode b_T_init 16 = .ok (.putfield 18, 3) := by decide +kernel
theorem d_T_init_19 : decode b_T_init 19 = .ok (.aload_n 0, 1) := by decide +kernel
theorem d_T_init_20 : decode b_T_init 20 = .ok (.bipush 6, 2) := by decide +kernel
theorem d_T_init_22 : decode b_T_init 22 = .ok (.newarray .int, 2) := by decide +kernel
theorem d_T_init_24 : decode b_T_init 24 = .ok (.putfield 21, 3) := by decide +kernel
theorem d_T_init_27 : decode b_T_init 27 = .ok (.aload_n 0, 1) := by decide +kernel
theorem d_T_init_28 : decode b_T_init 28 = .ok (.iconst 0, 1) := by decide +kernel
theorem d_T_init_29 : decode b_T_init 29 = .ok (.putfield 25, 3) := by decide +kernel
theorem d_T_init_32 : decode b_T_init 32 = .ok (.aload_n 0, 1) := by decide +kernel
theorem d_T_init_33 : decode b_T_init 33 = .ok (.iconst 0, 1) := by decide +kernel
theorem d_T_init_34 : decode b_T_init 34 = .ok (.putfield 29, 3) := by decide +kernel
theorem d_T_init_37 : decode b_T_init 37 = .ok (.aload_n 0, 1) := by decide +kernel
theorem d_T_init_38 : decode b_T_init 38 = .ok (.iconst 0, 1) := by decide +kernel
theorem d_T_init_39 : decode b_T_init 39 = .ok (.putfield 32, 3) := by decide +kernel
theorem d_T_init_42 : decode b_T_init 42 = .ok (.aload_n 0, 1) := by decide +kernel
theorem d_T_init_43 : decode b_T_init 43 = .ok (.iconst (-1), 1) := by decide +kernel
theorem d_T_init_44 : decode b_T_init 44 = .ok (.putfield 35, 3) := by decide +kernel
theorem d_T_init_47 : decode b_T_init 47 = .ok (.aload_n 0, 1) := by decide +kernel
theorem d_T_init_48 : decode b_T_init 48 = .ok (.iconst 0, 1) := by decide +kernel
theorem d_T_init_49 : decode b_T_init 49 = .ok (.putfield 38, 3) := by decide +kernel
theorem d_T_init_52 : decode b_T_init 52 = .ok (.aload_n 0, 1) := by decide +kernel
theorem d_T_init_53 : decode b_T_init 53 = .ok (.iconst 0, 1) := by decide +kernel
theorem d_T_init_54 : decode b_T_init 54 = .ok (.putfield 41, 3) := by decide +kernel
theorem d_T_init_57 : decode b_T_init 57 = .ok (.return_, 1) := by decide +kernel
theorem d_T_isDeclared_0 : decode b_T_isDeclared 0 = .ok (.aload_n 0, 1) := by decide +kernel
theorem d_T_isDeclared_1 : decode b_T_isDeclared 1 = .ok (.getfield 18, 3) := by decide +kernel
theorem d_T_isDeclared_4 : decode b_T_isDeclared 4 = .ok (.ifCond .le 7, 3) := by decide +kernel
theorem d_T_isDeclared_7 : decode b_T_isDeclared 7 = .ok (.iconst 1, 1) := by decide +kernel
theorem d_T_isDeclared_8 : decode b_T_isDeclared 8 = .ok (.goto 4, 3) := by decide +kernel
theorem d_T_isDeclared_11 : decode b_T_isDeclared 11 = .ok (.iconst 0, 1) := by decide +kernel
theorem d_T_isDeclared_12 : decode b_T_isDeclared 12 = .ok (.ireturn, 1) := by decide +kernel
theorem d_T_isUserOf_0 : decode b_T_isUserOf 0 = .ok (.aload_n 0, 1) := by decide +kernel
theorem d_T_isUserOf_1 : decode b_T_isUserOf 1 = .ok (.getfield 21, 3) := by decide +kernel
theorem d_T_isUserOf_4 : decode b_T_isUserOf 4 = .ok (.iload_n 1, 1) := by decide +kernel
theorem d_T_isUserOf_5 : decode b_T_isUserOf 5 = .ok (.iaload, 1) := by decide +kernel
theorem d_T_isUserOf_6 : decode b_T_isUserOf 6 = .ok (.ifCond .le 7, 3) := by decide +kernel
theorem d_T_isUserOf_9 : decode b_T_isUserOf 9 = .ok (.iconst 1, 1) := by decide +kernel
theorem d_T_isUserOf_10 : decode b_T_isUserOf 10 = .ok (.goto 4, 3) := by decide +kernel
theorem d_T_isUserOf_13 : decode b_T_isUserOf 13 = .ok (.iconst 0, 1) := by decide +kernel
theorem d_T_isUserOf_14 : decode b_T_isUserOf 14 = .ok (.ireturn, 1) := by decide +kernel
theorem d_T_makeReady_0 : decode b_T_makeReady 0 = .ok (.aload_n 0, 1) := by decide +kernel
theorem d_T_makeReady_1 : decode b_T_makeReady 1 = .ok (.iconst 1, 1) := by decide +kernel
theorem d_T_makeReady_2 : decode b_T_makeReady 2 = .ok (.putfield 25, 3) := by decide +kernel
theorem d_T_makeReady_5 : decode b_T_makeReady 5 = .ok (.aload_n 0, 1) := by decide +kernel
theorem d_T_makeReady_6 : decode b_T_makeReady 6 = .ok (.aload_n 0, 1) := by decide +kernel
theorem d_T_makeReady_7 : decode b_T_makeReady 7 = .ok (.getfield 9, 3) := by decide +kernel
theorem d_T_makeReady_10 : decode b_T_makeReady 10 = .ok (.putfield 29, 3) := by decide +kernel
theorem d_T_makeReady_13 : decode b_T_makeReady 13 = .ok (.aload_n 0, 1) := by decide +kernel
theorem d_T_makeReady_14 : decode b_T_makeReady 14 = .ok (.iload_n 1, 1) := by decide +kernel
theorem d_T_makeReady_15 : decode b_T_makeReady 15 = .ok (.putfield 32, 3) := by decide +kernel
theorem d_T_makeReady_18 : decode b_T_makeReady 18 = .ok (.aload_n 0, 1) := by decide +kernel
theorem d_T_makeReady_19 : decode b_T_makeReady 19 = .ok (.iconst 0, 1) := by decide +kernel
theorem d_T_makeReady_20 : decode b_T_makeReady 20 = .ok (.putfield 38, 3) := by decide +kernel
theorem d_T_makeReady_23 : decode b_T_makeReady 23 = .ok (.aload_n 0, 1) := by decide +kernel
theorem d_T_makeReady_24 : decode b_T_makeReady 24 = .ok (.iconst 0, 1) := by decide +kernel
theorem d_T_makeReady_25 : decode b_T_makeReady 25 = .ok (.putfield 41, 3) := by decide +kernel
theorem d_T_makeReady_28 : decode b_T_makeReady 28 = .ok (.return_, 1) := by decide +kernel
theorem d_T_goesBefore_0 : decode b_T_goesBefore 0 = .ok (.aload_n 0, 1) := by decide +kernel
theorem d_T_goesBefore_1 : decode b_T_goesBefore 1 = .ok (.getfield 29, 3) := by decide +kernel
theorem d_T_goesBefore_4 : decode b_T_goesBefore 4 = .ok (.aload_n 1, 1) := by decide +kernel
theorem d_T_goesBefore_5 : decode b_T_goesBefore 5 = .ok (.getfield 29, 3) := by decide +kernel
theorem d_T_goesBefore_8 : decode b_T_goesBefore 8 = .ok (.if_icmp .gt 25, 3) := by decide +kernel
theorem d_T_goesBefore_11 : decode b_T_goesBefore 11 = .ok (.aload_n 0, 1) := by decide +kernel
theorem d_T_goesBefore_12 : decode b_T_goesBefore 12 = .ok (.getfield 29, 3) := by decide +kernel
theorem d_T_goesBefore_15 : decode b_T_goesBefore 15 = .ok (.aload_n 1, 1) := by decide +kernel
theorem d_T_goesBefore_16 : decode b_T_goesBefore 16 = .ok (.getfield 29, 3) := by decide +kernel
theorem d_T_goesBefore_19 : decode b_T_goesBefore 19 = .ok (.if_icmp .ne 18, 3) := by decide +kernel
theorem d_T_goesBefore_22 : decode b_T_goesBefore 22 = .ok (.aload_n 0, 1) := by decide +kernel
theorem d_T_goesBefore_23 : decode b_T_goesBefore 23 = .ok (.getfield 32, 3) := by decide +kernel
theorem d_T_goesBefore_26 : decode b_T_goesBefore 26 = .ok (.aload_n 1, 1) := by decide +kernel
theorem d_T_goesBefore_27 : decode b_T_goesBefore 27 = .ok (.getfield 32, 3) := by decide +kernel
theorem d_T_goesBefore_30 : decode b_T_goesBefore 30 = .ok (.if_icmp .ge 7, 3) := by decide +kernel
theorem d_T_goesBefore_33 : decode b_T_goesBefore 33 = .ok (.iconst 1, 1) := by decide +kernel
theorem d_T_goesBefore_34 : decode b_T_goesBefore 34 = .ok (.goto 4, 3) := by decide +kernel
theorem d_T_goesBefore_37 : decode b_T_goesBefore 37 = .ok (.iconst 0, 1) := by decide +kernel
theorem d_T_goesBefore_38 : decode b_T_goesBefore 38 = .ok (.ireturn, 1) := by decide +kernel
theorem d_T_demandIn_0 : decode b_T_demandIn 0 = .ok (.aload_n 0, 1) := by decide +kernel
theorem d_T_demandIn_1 : decode b_T_demandIn 1 = .ok (.invokevirtual 44, 3) := by decide +kernel
theorem d_T_demandIn_4 : decode b_T_demandIn 4 = .ok (.ifCond .eq 24, 3) := by decide +kernel
theorem d_T_demandIn_7 : decode b_T_demandIn 7 = .ok (.aload_n 0, 1) := by decide +kernel
theorem d_T_demandIn_8 : decode b_T_demandIn 8 = .ok (.getfield 15, 3) := by decide +kernel
theorem d_T_demandIn_11 : decode b_T_demandIn 11 = .ok (.iload_n 1, 1) := by decide +kernel
theorem d_T_demandIn_12 : decode b_T_demandIn 12 = .ok (.aload_n 0, 1) := by decide +kernel
theorem d_T_demandIn_13 : decode b_T_demandIn 13 = .ok (.getfield 18, 3) := by decide +kernel
theorem d_T_demandIn_16 : decode b_T_demandIn 16 = .ok (.iadd, 1) := by decide +kernel
theorem d_T_demandIn_17 : decode b_T_demandIn 17 = .ok (.iconst 1, 1) := by decide +kernel
theorem d_T_demandIn_18 : decode b_T_demandIn 18 = .ok (.isub, 1) := by decide +kernel
theorem d_T_demandIn_19 : decode b_T_demandIn 19 = .ok (.aload_n 0, 1) := by decide +kernel
theorem d_T_demandIn_20 : decode b_T_demandIn 20 = .ok (.getfield 18, 3) := by decide +kernel
theorem d_T_demandIn_23 : decode b_T_demandIn 23 = .ok (.idiv, 1) := by decide +kernel
theorem d_T_demandIn_24 : decode b_T_demandIn 24 = .ok (.imul, 1) := by decide +kernel
theorem d_T_demandIn_25 : decode b_T_demandIn 25 = .ok (.goto 4, 3) := by decide +kernel
theorem d_T_demandIn_28 : decode b_T_demandIn 28 = .ok (.iconst 0, 1) := by decide +kernel
theorem d_T_demandIn_29 : decode b_T_demandIn 29 = .ok (.ireturn, 1) := by decide +kernel
theorem d_H_init_0 : decode b_H_init 0 = .ok (.aload_n 0, 1) := by decide +kernel
theorem d_H_init_1 : decode b_H_init 1 = .ok (.invokespecial 3, 3) := by decide +kernel
theorem d_H_init_4 : decode b_H_init 4 = .ok (.aload_n 0, 1) := by decide +kernel
theorem d_H_init_5 : decode b_H_init 5 = .ok (.iconst 0, 1) := by decide +kernel
theorem d_H_init_6 : decode b_H_init 6 = .ok (.putfield 9, 3) := by decide +kernel
theorem d_H_init_9 : decode b_H_init 9 = .ok (.aload_n 0, 1) := by decide +kernel
theorem d_H_init_10 : decode b_H_init 10 = .ok (.iconst (-1), 1) := by decide +kernel
theorem d_H_init_11 : decode b_H_init 11 = .ok (.putfield 15, 3) := by decide +kernel
theorem d_H_init_14 : decode b_H_init 14 = .ok (.aload_n 0, 1) := by decide +kernel
theorem d_H_init_15 : decode b_H_init 15 = .ok (.iconst (-1), 1) := by decide +kernel
theorem d_H_init_16 : decode b_H_init 16 = .ok (.putfield 18, 3) := by decide +kernel
theorem d_H_init_19 : decode b_H_init 19 = .ok (.aload_n 0, 1) := by decide +kernel
theorem d_H_init_20 : decode b_H_init 20 = .ok (.iconst 0, 1) := by decide +kernel
theorem d_H_init_21 : decode b_H_init 21 = .ok (.putfield 21, 3) := by decide +kernel
theorem d_H_init_24 : decode b_H_init 24 = .ok (.return_, 1) := by decide +kernel
theorem d_N_init_0 : decode b_N_init 0 = .ok (.aload_n 0, 1) := by decide +kernel
theorem d_N_init_1 : decode b_N_init 1 = .ok (.invokespecial 3, 3) := by decide +kernel
theorem d_N_init_4 : decode b_N_init 4 = .ok (.aload_n 0, 1) := by decide +kernel
theorem d_N_init_5 : decode b_N_init 5 = .ok (.bipush 40, 2) := by decide +kernel
theorem d_N_init_7 : decode b_N_init 7 = .ok (.newarray .int, 2) := by decide +kernel
theorem d_N_init_9 : decode b_N_init 9 = .ok (.putfield 9, 3) := by decide +kernel
theorem d_N_init_12 : decode b_N_init 12 = .ok (.aload_n 0, 1) := by decide +kernel
theorem d_N_init_13 : decode b_N_init 13 = .ok (.iconst 0, 1) := by decide +kernel
theorem d_N_init_14 : decode b_N_init 14 = .ok (.putfield 15, 3) := by decide +kernel
theorem d_N_init_17 : decode b_N_init 17 = .ok (.return_, 1) := by decide +kernel
theorem d_N_write_0 : decode b_N_write 0 = .ok (.aload_n 0, 1) := by decide +kernel
theorem d_N_write_1 : decode b_N_write 1 = .ok (.getfield 9, 3) := by decide +kernel
theorem d_N_write_4 : decode b_N_write 4 = .ok (.aload_n 0, 1) := by decide +kernel
theorem d_N_write_5 : decode b_N_write 5 = .ok (.getfield 15, 3) := by decide +kernel
theorem d_N_write_8 : decode b_N_write 8 = .ok (.bipush 40, 2) := by decide +kernel
theorem d_N_write_10 : decode b_N_write 10 = .ok (.invokestatic 19, 3) := by decide +kernel
theorem d_N_write_13 : decode b_N_write 13 = .ok (.sipush 4096, 3) := by decide +kernel
theorem d_N_write_16 : decode b_N_write 16 = .ok (.iload 4, 2) := by decide +kernel
theorem d_N_write_18 : decode b_N_write 18 = .ok (.ldc 25, 2) := by decide +kernel
theorem d_N_write_20 : decode b_N_write 20 = .ok (.invokestatic 19, 3) := by decide +kernel
theorem d_N_write_23 : decode b_N_write 23 = .ok (.imul, 1) := by decide +kernel
theorem d_N_write_24 : decode b_N_write 24 = .ok (.sipush 256, 3) := by decide +kernel
theorem d_N_write_27 : decode b_N_write 27 = .ok (.iload_n 3, 1) := by decide +kernel
theorem d_N_write_28 : decode b_N_write 28 = .ok (.imul, 1) := by decide +kernel
theorem d_N_write_29 : decode b_N_write 29 = .ok (.iadd, 1) := by decide +kernel
theorem d_N_write_30 : decode b_N_write 30 = .ok (.bipush 16, 2) := by decide +kernel
theorem d_N_write_32 : decode b_N_write 32 = .ok (.iload_n 2, 1) := by decide +kernel
theorem d_N_write_33 : decode b_N_write 33 = .ok (.imul, 1) := by decide +kernel
theorem d_N_write_34 : decode b_N_write 34 = .ok (.iadd, 1) := by decide +kernel
theorem d_N_write_35 : decode b_N_write 35 = .ok (.iload_n 1, 1) := by decide +kernel
theorem d_N_write_36 : decode b_N_write 36 = .ok (.iadd, 1) := by decide +kernel
theorem d_N_write_37 : decode b_N_write 37 = .ok (.iastore, 1) := by decide +kernel
theorem d_N_write_38 : decode b_N_write 38 = .ok (.aload_n 0, 1) := by decide +kernel
theorem d_N_write_39 : decode b_N_write 39 = .ok (.dup, 1) := by decide +kernel
theorem d_N_write_40 : decode b_N_write 40 = .ok (.getfield 15, 3) := by decide +kernel
theorem d_N_write_43 : decode b_N_write 43 = .ok (.iconst 1, 1) := by decide +kernel
theorem d_N_write_44 : decode b_N_write 44 = .ok (.iadd, 1) := by decide +kernel
theorem d_N_write_45 : decode b_N_write 45 = .ok (.putfield 15, 3) := by decide +kernel
theorem d_N_write_48 : decode b_N_write 48 = .ok (.return_, 1) := by decide +kernel
theorem d_N_fromLatest_0 : decode b_N_fromLatest 0 = .ok (.iload_n 1, 1) := by decide +kernel
theorem d_N_fromLatest_1 : decode b_N_fromLatest 1 = .ok (.ifCond .lt 17, 3) := by decide +kernel
theorem d_N_fromLatest_4 : decode b_N_fromLatest 4 = .ok (.iload_n 1, 1) := by decide +kernel
theorem d_N_fromLatest_5 : decode b_N_fromLatest 5 = .ok (.bipush 40, 2) := by decide +kernel
theorem d_N_fromLatest_7 : decode b_N_fromLatest 7 = .ok (.if_icmp .ge 11, 3) := by decide +kernel
theorem d_N_fromLatest_10 : decode b_N_fromLatest 10 = .ok (.iload_n 1, 1) := by decide +kernel
theorem d_N_fromLatest_11 : decode b_N_fromLatest 11 = .ok (.aload_n 0, 1) := by decide +kernel
theorem d_N_fromLatest_12 : decode b_N_fromLatest 12 = .ok (.getfield 15, 3) := by decide +kernel
theorem d_N_fromLatest_15 : decode b_N_fromLatest 15 = .ok (.if_icmp .lt 5, 3) := by decide +kernel
theorem d_N_fromLatest_18 : decode b_N_fromLatest 18 = .ok (.iconst (-1), 1) := by decide +kernel
theorem d_N_fromLatest_19 : decode b_N_fromLatest 19 = .ok (.ireturn, 1) := by decide +kernel
theorem d_N_fromLatest_20 : decode b_N_fromLatest 20 = .ok (.aload_n 0, 1) := by decide +kernel
theorem d_N_fromLatest_21 : decode b_N_fromLatest 21 = .ok (.getfield 9, 3) := by decide +kernel
theorem d_N_fromLatest_24 : decode b_N_fromLatest 24 = .ok (.aload_n 0, 1) := by decide +kernel
theorem d_N_fromLatest_25 : decode b_N_fromLatest 25 = .ok (.getfield 15, 3) := by decide +kernel
theorem d_N_fromLatest_28 : decode b_N_fromLatest 28 = .ok (.iconst 1, 1) := by decide +kernel
theorem d_N_fromLatest_29 : decode b_N_fromLatest 29 = .ok (.isub, 1) := by decide +kernel
theorem d_N_fromLatest_30 : decode b_N_fromLatest 30 = .ok (.iload_n 1, 1) := by decide +kernel
theorem d_N_fromLatest_31 : decode b_N_fromLatest 31 = .ok (.isub, 1) := by decide +kernel
theorem d_N_fromLatest_32 : decode b_N_fromLatest 32 = .ok (.bipush 40, 2) := by decide +kernel
theorem d_N_fromLatest_34 : decode b_N_fromLatest 34 = .ok (.invokestatic 19, 3) := by decide +kernel
theorem d_N_fromLatest_37 : decode b_N_fromLatest 37 = .ok (.iaload, 1) := by decide +kernel
theorem d_N_fromLatest_38 : decode b_N_fromLatest 38 = .ok (.ireturn, 1) := by decide +kernel
theorem d_J_floorMod_0 : decode b_J_floorMod 0 = .ok (.iload_n 0, 1) := by decide +kernel
theorem d_J_floorMod_1 : decode b_J_floorMod 1 = .ok (.iload_n 1, 1) := by decide +kernel
theorem d_J_floorMod_2 : decode b_J_floorMod 2 = .ok (.irem, 1) := by decide +kernel
theorem d_J_floorMod_3 : decode b_J_floorMod 3 = .ok (.istore_n 2, 1) := by decide +kernel
theorem d_J_floorMod_4 : decode b_J_floorMod 4 = .ok (.iload_n 0, 1) := by decide +kernel
theorem d_J_floorMod_5 : decode b_J_floorMod 5 = .ok (.iload_n 1, 1) := by decide +kernel
theorem d_J_floorMod_6 : decode b_J_floorMod 6 = .ok (.ixor, 1) := by decide +kernel
theorem d_J_floorMod_7 : decode b_J_floorMod 7 = .ok (.ifCond .ge 11, 3) := by decide +kernel
theorem d_J_floorMod_10 : decode b_J_floorMod 10 = .ok (.iload_n 2, 1) := by decide +kernel
theorem d_J_floorMod_11 : decode b_J_floorMod 11 = .ok (.ifCond .eq 7, 3) := by decide +kernel
theorem d_J_floorMod_14 : decode b_J_floorMod 14 = .ok (.iload_n 2, 1) := by decide +kernel
theorem d_J_floorMod_15 : decode b_J_floorMod 15 = .ok (.iload_n 1, 1) := by decide +kernel
theorem d_J_floorMod_16 : decode b_J_floorMod 16 = .ok (.iadd, 1) := by decide +kernel
theorem d_J_floorMod_17 : decode b_J_floorMod 17 = .ok (.ireturn, 1) := by decide +kernel
theorem d_J_floorMod_18 : decode b_J_floorMod 18 = .ok (.iload_n 2, 1) := by decide +kernel
theorem d_J_floorMod_19 : decode b_J_floorMod 19 = .ok (.ireturn, 1) := by decide +kernel
end
section
-- decode rows of the reference
theorem d_M_init_0 : decode b_M_init 0 = .ok (.aload_n 0, 1) := by decide +kernel
theorem d_M_init_1 : decode b_M_init 1 = .ok (.invokespecial 1, 3) := by decide +kernel
theorem d_M_init_4 : decode b_M_init 4 = .ok (.aload_n 0, 1) := by decide +kernel
theorem d_M_init_5 : decode b_M_init 5 = .ok (.bipush 8, 2) := by decide +kernel
theorem d_M_init_7 : decode b_M_init 7 = .ok (.newarray .int, 2) := by decide +kernel
theorem d_M_init_9 : decode b_M_init 9 = .ok (.putfield 7, 3) := by decide +kernel
theorem d_M_init_12 : decode b_M_init 12 = .ok (.aload_n 0, 1) := by decide +kernel
theorem d_M_init_13 : decode b_M_init 13 = .ok (.bipush 8, 2) := by decide +kernel
theorem d_M_init_15 : decode b_M_init 15 = .ok (.newarray .int, 2) := by decide +kernel
theorem d_M_init_17 : decode b_M_init 17 = .ok (.putfield 13, 3) := by decide +kernel
theorem d_M_init_20 : decode b_M_init 20 = .ok (.aload_n 0, 1) := by decide +kernel
theorem d_M_init_21 : decode b_M_init 21 = .ok (.bipush 8, 2) := by decide +kernel
theorem d_M_init_23 : decode b_M_init 23 = .ok (.newarray .int, 2) := by decide +kernel
theorem d_M_init_25 : decode b_M_init 25 = .ok (.putfield 16, 3) := by decide +kernel
theorem d_M_init_28 : decode b_M_init 28 = .ok (.aload_n 0, 1) := by decide +kernel
theorem d_M_init_29 : decode b_M_init 29 = .ok (.bipush 8, 2) := by decide +kernel
theorem d_M_init_31 : decode b_M_init 31 = .ok (.newarray .int, 2) := by decide +kernel
theorem d_M_init_33 : decode b_M_init 33 = .ok (.putfield 19, 3) := by decide +kernel
theorem d_M_init_36 : decode b_M_init 36 = .ok (.aload_n 0, 1) := by decide +kernel
theorem d_M_init_37 : decode b_M_init 37 = .ok (.bipush 8, 2) := by decide +kernel
theorem d_M_init_39 : decode b_M_init 39 = .ok (.newarray .int, 2) := by decide +kernel
theorem d_M_init_41 : decode b_M_init 41 = .ok (.putfield 22, 3) := by decide +kernel
theorem d_M_init_44 : decode b_M_init 44 = .ok (.aload_n 0, 1) := by decide +kernel
theorem d_M_init_45 : decode b_M_init 45 = .ok (.bipush 8, 2) := by decide +kernel
theorem d_M_init_47 : decode b_M_init 47 = .ok (.newarray .int, 2) := by decide +kernel
theorem d_M_init_49 : decode b_M_init 49 = .ok (.putfield 25, 3) := by decide +kernel
theorem d_M_init_52 : decode b_M_init 52 = .ok (.aload_n 0, 1) := by decide +kernel
theorem d_M_init_53 : decode b_M_init 53 = .ok (.bipush 8, 2) := by decide +kernel
theorem d_M_init_55 : decode b_M_init 55 = .ok (.newarray .int, 2) := by decide +kernel
theorem d_M_init_57 : decode b_M_init 57 = .ok (.putfield 28, 3) := by decide +kernel
theorem d_M_init_60 : decode b_M_init 60 = .ok (.aload_n 0, 1) := by decide +kernel
theorem d_M_init_61 : decode b_M_init 61 = .ok (.bipush 48, 2) := by decide +kernel
theorem d_M_init_63 : decode b_M_init 63 = .ok (.newarray .int, 2) := by decide +kernel
theorem d_M_init_65 : decode b_M_init 65 = .ok (.putfield 31, 3) := by decide +kernel
theorem d_M_init_68 : decode b_M_init 68 = .ok (.aload_n 0, 1) := by decide +kernel
theorem d_M_init_69 : decode b_M_init 69 = .ok (.bipush 6, 2) := by decide +kernel
theorem d_M_init_71 : decode b_M_init 71 = .ok (.newarray .int, 2) := by decide +kernel
theorem d_M_init_73 : decode b_M_init 73 = .ok (.putfield 34, 3) := by decide +kernel
theorem d_M_init_76 : decode b_M_init 76 = .ok (.aload_n 0, 1) := by decide +kernel
theorem d_M_init_77 : decode b_M_init 77 = .ok (.bipush 6, 2) := by decide +kernel
theorem d_M_init_79 : decode b_M_init 79 = .ok (.newarray .int, 2) := by decide +kernel
theorem d_M_init_81 : decode b_M_init 81 = .ok (.putfield 37, 3) := by decide +kernel
theorem d_M_init_84 : decode b_M_init 84 = .ok (.aload_n 0, 1) := by decide +kernel
theorem d_M_init_85 : decode b_M_init 85 = .ok (.bipush 6, 2) := by decide +kernel
theorem d_M_init_87 : decode b_M_init 87 = .ok (.newarray .int, 2) := by decide +kernel
theorem d_M_init_89 : decode b_M_init 89 = .ok (.putfield 40, 3) := by decide +kernel
theorem d_M_init_92 : decode b_M_init 92 = .ok (.aload_n 0, 1) := by decide +kernel
theorem d_M_init_93 : decode b_M_init 93 = .ok (.bipush 40, 2) := by decide +kernel
theorem d_M_init_95 : decode b_M_init 95 = .ok (.newarray .int, 2) := by decide +kernel
theorem d_M_init_97 : decode b_M_init 97 = .ok (.putfield 43, 3) := by decide +kernel
theorem d_M_init_100 : decode b_M_init 100 = .ok (.iconst 0, 1) := by decide +kernel
theorem d_M_init_101 : decode b_M_init 101 = .ok (.istore_n 1, 1) := by decide +kernel
theorem d_M_init_102 : decode b_M_init 102 = .ok (.iload_n 1, 1) := by decide +kernel
theorem d_M_init_103 : decode b_M_init 103 = .ok (.bipush 6, 2) := by decide +kernel
theorem d_M_init_105 : decode b_M_init 105 = .ok (.if_icmp .ge 16, 3) := by decide +kernel
theorem d_M_init_108 : decode b_M_init 108 = .ok (.aload_n 0, 1) := by decide +kernel
theorem d_M_init_109 : decode b_M_init 109 = .ok (.getfield 34, 3) := by decide +kernel
theorem d_M_init_112 : decode b_M_init 112 = .ok (.iload_n 1, 1) := by decide +kernel
theorem d_M_init_113 : decode b_M_init 113 = .ok (.iconst (-1), 1) := by decide +kernel
theorem d_M_init_114 : decode b_M_init 114 = .ok (.iastore, 1) := by decide +kernel
theorem d_M_init_115 : decode b_M_init 115 = .ok (.iinc 1 1, 3) := by decide +kernel
theorem d_M_init_118 : decode b_M_init 118 = .ok (.goto (-16), 3) := by decide +kernel
theorem d_M_init_121 : decode b_M_init 121 = .ok (.return_, 1) := by decide +kernel
theorem d_M_thrown_0 : decode b_M_thrown 0 = .ok (.aload_n 0, 1) := by decide +kernel
theorem d_M_thrown_1 : decode b_M_thrown 1 = .ok (.getfield 46, 3) := by decide +kernel
theorem d_M_thrown_4 : decode b_M_thrown 4 = .ok (.ireturn, 1) := by decide +kernel
theorem d_M_refuses_0 : decode b_M_refuses 0 = .ok (.aload_n 0, 1) := by decide +kernel
theorem d_M_refuses_1 : decode b_M_refuses 1 = .ok (.iload_n 1, 1) := by decide +kernel
theorem d_M_refuses_2 : decode b_M_refuses 2 = .ok (.ifCond .eq 7, 3) := by decide +kernel
theorem d_M_refuses_5 : decode b_M_refuses 5 = .ok (.iconst 1, 1) := by decide +kernel
theorem d_M_refuses_6 : decode b_M_refuses 6 = .ok (.goto 12, 3) := by decide +kernel
theorem d_M_refuses_9 : decode b_M_refuses 9 = .ok (.iload_n 2, 1) := by decide +kernel
theorem d_M_refuses_10 : decode b_M_refuses 10 = .ok (.ifCond .eq 7, 3) := by decide +kernel
theorem d_M_refuses_13 : decode b_M_refuses 13 = .ok (.iconst 2, 1) := by decide +kernel
theorem d_M_refuses_14 : decode b_M_refuses 14 = .ok (.goto 4, 3) := by decide +kernel
theorem d_M_refuses_17 : decode b_M_refuses 17 = .ok (.iconst 0, 1) := by decide +kernel
theorem d_M_refuses_18 : decode b_M_refuses 18 = .ok (.putfield 46, 3) := by decide +kernel
theorem d_M_refuses_21 : decode b_M_refuses 21 = .ok (.aload_n 0, 1) := by decide +kernel
theorem d_M_refuses_22 : decode b_M_refuses 22 = .ok (.getfield 46, 3) := by decide +kernel
theorem d_M_refuses_25 : decode b_M_refuses 25 = .ok (.ifCond .le 7, 3) := by decide +kernel
theorem d_M_refuses_28 : decode b_M_refuses 28 = .ok (.iconst 1, 1) := by decide +kernel
theorem d_M_refuses_29 : decode b_M_refuses 29 = .ok (.goto 4, 3) := by decide +kernel
theorem d_M_refuses_32 : decode b_M_refuses 32 = .ok (.iconst 0, 1) := by decide +kernel
theorem d_M_refuses_33 : decode b_M_refuses 33 = .ok (.ireturn, 1) := by decide +kernel
theorem d_M_isTask_0 : decode b_M_isTask 0 = .ok (.iload_n 0, 1) := by decide +kernel
theorem d_M_isTask_1 : decode b_M_isTask 1 = .ok (.ifCond .lt 13, 3) := by decide +kernel
theorem d_M_isTask_4 : decode b_M_isTask 4 = .ok (.iload_n 0, 1) := by decide +kernel
theorem d_M_isTask_5 : decode b_M_isTask 5 = .ok (.bipush 8, 2) := by decide +kernel
theorem d_M_isTask_7 : decode b_M_isTask 7 = .ok (.if_icmp .ge 7, 3) := by decide +kernel
theorem d_M_isTask_10 : decode b_M_isTask 10 = .ok (.iconst 1, 1) := by decide +kernel
theorem d_M_isTask_11 : decode b_M_isTask 11 = .ok (.goto 4, 3) := by decide +kernel
theorem d_M_isTask_14 : decode b_M_isTask 14 = .ok (.iconst 0, 1) := by decide +kernel
theorem d_M_isTask_15 : decode b_M_isTask 15 = .ok (.ireturn, 1) := by decide +kernel
theorem d_M_isThing_0 : decode b_M_isThing 0 = .ok (.iload_n 0, 1) := by decide +kernel
theorem d_M_isThing_1 : decode b_M_isThing 1 = .ok (.ifCond .lt 13, 3) := by decide +kernel
theorem d_M_isThing_4 : decode b_M_isThing 4 = .ok (.iload_n 0, 1) := by decide +kernel
theorem d_M_isThing_5 : decode b_M_isThing 5 = .ok (.bipush 6, 2) := by decide +kernel
theorem d_M_isThing_7 : decode b_M_isThing 7 = .ok (.if_icmp .ge 7, 3) := by decide +kernel
theorem d_M_isThing_10 : decode b_M_isThing 10 = .ok (.iconst 1, 1) := by decide +kernel
theorem d_M_isThing_11 : decode b_M_isThing 11 = .ok (.goto 4, 3) := by decide +kernel
theorem d_M_isThing_14 : decode b_M_isThing 14 = .ok (.iconst 0, 1) := by decide +kernel
theorem d_M_isThing_15 : decode b_M_isThing 15 = .ok (.ireturn, 1) := by decide +kernel
theorem d_M_isDeclared_0 : decode b_M_isDeclared 0 = .ok (.iload_n 1, 1) := by decide +kernel
theorem d_M_isDeclared_1 : decode b_M_isDeclared 1 = .ok (.invokestatic 50, 3) := by decide +kernel
theorem d_M_isDeclared_4 : decode b_M_isDeclared 4 = .ok (.ifCond .eq 16, 3) := by decide +kernel
theorem d_M_isDeclared_7 : decode b_M_isDeclared 7 = .ok (.aload_n 0, 1) := by decide +kernel
theorem d_M_isDeclared_8 : decode b_M_isDeclared 8 = .ok (.getfield 7, 3) := by decide +kernel
theorem d_M_isDeclared_11 : decode b_M_isDeclared 11 = .ok (.iload_n 1, 1) := by decide +kernel
theorem d_M_isDeclared_12 : decode b_M_isDeclared 12 = .ok (.iaload, 1) := by decide +kernel
theorem d_M_isDeclared_13 : decode b_M_isDeclared 13 = .ok (.ifCond .le 7, 3) := by decide +kernel
theorem d_M_isDeclared_16 : decode b_M_isDeclared 16 = .ok (.iconst 1, 1) := by decide +kernel
theorem d_M_isDeclared_17 : decode b_M_isDeclared 17 = .ok (.goto 4, 3) := by decide +kernel
theorem d_M_isDeclared_20 : decode b_M_isDeclared 20 = .ok (.iconst 0, 1) := by decide +kernel
theorem d_M_isDeclared_21 : decode b_M_isDeclared 21 = .ok (.ireturn, 1) := by decide +kernel
theorem d_M_isReady_0 : decode b_M_isReady 0 = .ok (.iload_n 1, 1) := by decide +kernel
theorem d_M_isReady_1 : decode b_M_isReady 1 = .ok (.invokestatic 50, 3) := by decide +kernel
theorem d_M_isReady_4 : decode b_M_isReady 4 = .ok (.ifCond .eq 16, 3) := by decide +kernel
theorem d_M_isReady_7 : decode b_M_isReady 7 = .ok (.aload_n 0, 1) := by decide +kernel
theorem d_M_isReady_8 : decode b_M_isReady 8 = .ok (.getfield 19, 3) := by decide +kernel
theorem d_M_isReady_11 : decode b_M_isReady 11 = .ok (.iload_n 1, 1) := by decide +kernel
theorem d_M_isReady_12 : decode b_M_isReady 12 = .ok (.iaload, 1) := by decide +kernel
theorem d_M_isReady_13 : decode b_M_isReady 13 = .ok (.ifCond .le 7, 3) := by decide +kernel
theorem d_M_isReady_16 : decode b_M_isReady 16 = .ok (.iconst 1, 1) := by decide +kernel
theorem d_M_isReady_17 : decode b_M_isReady 17 = .ok (.goto 4, 3) := by decide +kernel
theorem d_M_isReady_20 : decode b_M_isReady 20 = .ok (.iconst 0, 1) := by decide +kernel
theorem d_M_isReady_21 : decode b_M_isReady 21 = .ok (.ireturn, 1) := by decide +kernel
theorem d_M_declare_0 : decode b_M_declare 0 = .ok (.iload_n 1, 1) := by decide +kernel
theorem d_M_declare_1 : decode b_M_declare 1 = .ok (.invokestatic 50, 3) := by decide +kernel
theorem d_M_declare_4 : decode b_M_declare 4 = .ok (.ifCond .eq 39, 3) := by decide +kernel
theorem d_M_declare_7 : decode b_M_declare 7 = .ok (.iload_n 2, 1) := by decide +kernel
theorem d_M_declare_8 : decode b_M_declare 8 = .ok (.iconst 1, 1) := by decide +kernel
theorem d_M_declare_9 : decode b_M_declare 9 = .ok (.if_icmp .lt 34, 3) := by decide +kernel
theorem d_M_declare_12 : decode b_M_declare 12 = .ok (.iload_n 2, 1) := by decide +kernel
theorem d_M_declare_13 : decode b_M_declare 13 = .ok (.bipush 16, 2) := by decide +kernel
theorem d_M_declare_15 : decode b_M_declare 15 = .ok (.if_icmp .gt 28, 3) := by decide +kernel
theorem d_M_declare_18 : decode b_M_declare 18 = .ok (.iload_n 3, 1) := by decide +kernel
theorem d_M_declare_19 : decode b_M_declare 19 = .ok (.iconst 1, 1) := by decide +kernel
theorem d_M_declare_20 : decode b_M_declare 20 = .ok (.if_icmp .lt 23, 3) := by decide +kernel
theorem d_M_declare_23 : decode b_M_declare 23 = .ok (.iload_n 3, 1) := by decide +kernel
theorem d_M_declare_24 : decode b_M_declare 24 = .ok (.bipush 50, 2) := by decide +kernel
theorem d_M_declare_26 : decode b_M_declare 26 = .ok (.if_icmp .gt 17, 3) := by decide +kernel
theorem d_M_declare_29 : decode b_M_declare 29 = .ok (.iload 4, 2) := by decide +kernel
theorem d_M_declare_31 : decode b_M_declare 31 = .ok (.iconst 1, 1) := by decide +kernel
theorem d_M_declare_32 : decode b_M_declare 32 = .ok (.if_icmp .lt 11, 3) := by decide +kernel
theorem d_M_declare_35 : decode b_M_declare 35 = .ok (.iload 4, 2) := by decide +kernel
theorem d_M_declare_37 : decode b_M_declare 37 = .ok (.sipush 200, 3) := by decide +kernel
theorem d_M_declare_40 : decode b_M_declare 40 = .ok (.if_icmp .le 7, 3) := by decide +kernel
theorem d_M_declare_43 : decode b_M_declare 43 = .ok (.iconst 1, 1) := by decide +kernel
theorem d_M_declare_44 : decode b_M_declare 44 = .ok (.goto 4, 3) := by decide +kernel
theorem d_M_declare_47 : decode b_M_declare 47 = .ok (.iconst 0, 1) := by decide +kernel
theorem d_M_declare_48 : decode b_M_declare 48 = .ok (.istore 5, 2) := by decide +kernel
theorem d_M_declare_50 : decode b_M_declare 50 = .ok (.aload_n 0, 1) := by decide +kernel
theorem d_M_declare_51 : decode b_M_declare 51 = .ok (.aload_n 0, 1) := by decide +kernel
theorem d_M_declare_52 : decode b_M_declare 52 = .ok (.getfield 54, 3) := by decide +kernel
theorem d_M_declare_55 : decode b_M_declare 55 = .ok (.ifCond .ne 11, 3) := by decide +kernel
theorem d_M_declare_58 : decode b_M_declare 58 = .ok (.aload_n 0, 1) := by decide +kernel
theorem d_M_declare_59 : decode b_M_declare 59 = .ok (.iload_n 1, 1) := by decide +kernel
theorem d_M_declare_60 : decode b_M_declare 60 = .ok (.invokevirtual 58, 3) := by decide +kernel
theorem d_M_declare_63 : decode b_M_declare 63 = .ok (.ifCond .eq 7, 3) := by decide +kernel
theorem d_M_declare_66 : decode b_M_declare 66 = .ok (.iconst 1, 1) := by decide +kernel
theorem d_M_declare_67 : decode b_M_declare 67 = .ok (.goto 4, 3) := by decide +kernel
theorem d_M_declare_70 : decode b_M_declare 70 = .ok (.iconst 0, 1) := by decide +kernel
theorem d_M_declare_71 : decode b_M_declare 71 = .ok (.iload 5, 2) := by decide +kernel
theorem d_M_declare_73 : decode b_M_declare 73 = .ok (.invokevirtual 61, 3) := by decide +kernel
theorem d_M_declare_76 : decode b_M_declare 76 = .ok (.ifCond .eq 4, 3) := by decide +kernel
theorem d_M_declare_79 : decode b_M_declare 79 = .ok (.return_, 1) := by decide +kernel
theorem d_M_declare_80 : decode b_M_declare 80 = .ok (.aload_n 0, 1) := by decide +kernel
theorem d_M_declare_81 : decode b_M_declare 81 = .ok (.getfield 7, 3) := by decide +kernel
theorem d_M_declare_84 : decode b_M_declare 84 = .ok (.iload_n 1, 1) := by decide +kernel
theorem d_M_declare_85 : decode b_M_declare 85 = .ok (.iload_n 2, 1) := by decide +kernel
theorem d_M_declare_86 : decode b_M_declare 86 = .ok (.iastore, 1) := by decide +kernel
theorem d_M_declare_87 : decode b_M_declare 87 = .ok (.aload_n 0, 1) := by decide +kernel
theorem d_M_declare_88 : decode b_M_declare 88 = .ok (.getfield 13, 3) := by decide +kernel
theorem d_M_declare_91 : decode b_M_declare 91 = .ok (.iload_n 1, 1) := by decide +kernel
theorem d_M_declare_92 : decode b_M_declare 92 = .ok (.iload_n 3, 1) := by decide +kernel
theorem d_M_declare_93 : decode b_M_declare 93 = .ok (.iastore, 1) := by decide +kernel
theorem d_M_declare_94 : decode b_M_declare 94 = .ok (.aload_n 0, 1) := by decide +kernel
theorem d_M_declare_95 : decode b_M_declare 95 = .ok (.getfield 16, 3) := by decide +kernel
theorem d_M_declare_98 : decode b_M_declare 98 = .ok (.iload_n 1, 1) := by decide +kernel
theorem d_M_declare_99 : decode b_M_declare 99 = .ok (.iload 4, 2) := by decide +kernel
theorem d_M_declare_101 : decode b_M_declare 101 = .ok (.iastore, 1) := by decide +kernel
theorem d_M_declare_102 : decode b_M_declare 102 = .ok (.aload_n 0, 1) := by decide +kernel
theorem d_M_declare_103 : decode b_M_declare 103 = .ok (.getfield 22, 3) := by decide +kernel
theorem d_M_declare_106 : decode b_M_declare 106 = .ok (.iload_n 1, 1) := by decide +kernel
theorem d_M_declare_107 : decode b_M_declare 107 = .ok (.iload_n 2, 1) := by decide +kernel
theorem d_M_declare_108 : decode b_M_declare 108 = .ok (.iastore, 1) := by decide +kernel
theorem d_M_declare_109 : decode b_M_declare 109 = .ok (.return_, 1) := by decide +kernel
theorem d_M_mayUse_0 : decode b_M_mayUse 0 = .ok (.aload_n 0, 1) := by decide +kernel
theorem d_M_mayUse_1 : decode b_M_mayUse 1 = .ok (.aload_n 0, 1) := by decide +kernel
theorem d_M_mayUse_2 : decode b_M_mayUse 2 = .ok (.getfield 54, 3) := by decide +kernel
theorem d_M_mayUse_5 : decode b_M_mayUse 5 = .ok (.aload_n 0, 1) := by decide +kernel
theorem d_M_mayUse_6 : decode b_M_mayUse 6 = .ok (.iload_n 1, 1) := by decide +kernel
theorem d_M_mayUse_7 : decode b_M_mayUse 7 = .ok (.invokevirtual 58, 3) := by decide +kernel
theorem d_M_mayUse_10 : decode b_M_mayUse 10 = .ok (.ifCond .eq 21, 3) := by decide +kernel
theorem d_M_mayUse_13 : decode b_M_mayUse 13 = .ok (.iload_n 2, 1) := by decide +kernel
theorem d_M_mayUse_14 : decode b_M_mayUse 14 = .ok (.invokestatic 65, 3) := by decide +kernel
theorem d_M_mayUse_17 : decode b_M_mayUse 17 = .ok (.ifCond .eq 14, 3) := by decide +kernel
theorem d_M_mayUse_20 : decode b_M_mayUse 20 = .ok (.iload_n 3, 1) := by decide +kernel
theorem d_M_mayUse_21 : decode b_M_mayUse 21 = .ok (.iconst 1, 1) := by decide +kernel
theorem d_M_mayUse_22 : decode b_M_mayUse 22 = .ok (.if_icmp .lt 9, 3) := by decide +kernel
theorem d_M_mayUse_25 : decode b_M_mayUse 25 = .ok (.iload_n 3, 1) := by decide +kernel
theorem d_M_mayUse_26 : decode b_M_mayUse 26 = .ok (.bipush 50, 2) := by decide +kernel
theorem d_M_mayUse_28 : decode b_M_mayUse 28 = .ok (.if_icmp .le 7, 3) := by decide +kernel
theorem d_M_mayUse_31 : decode b_M_mayUse 31 = .ok (.iconst 1, 1) := by decide +kernel
theorem d_M_mayUse_32 : decode b_M_mayUse 32 = .ok (.goto 4, 3) := by decide +kernel
theorem d_M_mayUse_35 : decode b_M_mayUse 35 = .ok (.iconst 0, 1) := by decide +kernel
theorem d_M_mayUse_36 : decode b_M_mayUse 36 = .ok (.invokevirtual 61, 3) := by decide +kernel
theorem d_M_mayUse_39 : decode b_M_mayUse 39 = .ok (.ifCond .ne 15, 3) := by decide +kernel
theorem d_M_mayUse_42 : decode b_M_mayUse 42 = .ok (.aload_n 0, 1) := by decide +kernel
theorem d_M_mayUse_43 : decode b_M_mayUse 43 = .ok (.getfield 31, 3) := by decide +kernel
theorem d_M_mayUse_46 : decode b_M_mayUse 46 = .ok (.bipush 6, 2) := by decide +kernel
theorem d_M_mayUse_48 : decode b_M_mayUse 48 = .ok (.iload_n 1, 1) := by decide +kernel
theorem d_M_mayUse_49 : decode b_M_mayUse 49 = .ok (.imul, 1) := by decide +kernel
theorem d_M_mayUse_50 : decode b_M_mayUse 50 = .ok (.iload_n 2, 1) := by decide +kernel
theorem d_M_mayUse_51 : decode b_M_mayUse 51 = .ok (.iadd, 1) := by decide +kernel
theorem d_M_mayUse_52 : decode b_M_mayUse 52 = .ok (.iload_n 3, 1) := by decide +kernel
theorem d_M_mayUse_53 : decode b_M_mayUse 53 = .ok (.iastore, 1) := by decide +kernel
theorem d_M_mayUse_54 : decode b_M_mayUse 54 = .ok (.return_, 1) := by decide +kernel
theorem d_M_seal_0 : decode b_M_seal 0 = .ok (.aload_n 0, 1) := by decide +kernel
theorem d_M_seal_1 : decode b_M_seal 1 = .ok (.aload_n 0, 1) := by decide +kernel
theorem d_M_seal_2 : decode b_M_seal 2 = .ok (.getfield 54, 3) := by decide +kernel
theorem d_M_seal_5 : decode b_M_seal 5 = .ok (.iconst 0, 1) := by decide +kernel
theorem d_M_seal_6 : decode b_M_seal 6 = .ok (.invokevirtual 61, 3) := by decide +kernel
theorem d_M_seal_9 : decode b_M_seal 9 = .ok (.ifCond .eq 5, 3) := by decide +kernel
theorem d_M_seal_12 : decode b_M_seal 12 = .ok (.iconst 0, 1) := by decide +kernel
theorem d_M_seal_13 : decode b_M_seal 13 = .ok (.ireturn, 1) := by decide +kernel
theorem d_M_seal_14 : decode b_M_seal 14 = .ok (.aload_n 0, 1) := by decide +kernel
theorem d_M_seal_15 : decode b_M_seal 15 = .ok (.iconst 1, 1) := by decide +kernel
theorem d_M_seal_16 : decode b_M_seal 16 = .ok (.putfield 54, 3) := by decide +kernel
theorem d_M_seal_19 : decode b_M_seal 19 = .ok (.iconst 0, 1) := by decide +kernel
theorem d_M_seal_20 : decode b_M_seal 20 = .ok (.istore_n 1, 1) := by decide +kernel
theorem d_M_seal_21 : decode b_M_seal 21 = .ok (.iconst 0, 1) := by decide +kernel
theorem d_M_seal_22 : decode b_M_seal 22 = .ok (.istore_n 2, 1) := by decide +kernel
theorem d_M_seal_23 : decode b_M_seal 23 = .ok (.iload_n 2, 1) := by decide +kernel
theorem d_M_seal_24 : decode b_M_seal 24 = .ok (.bipush 8, 2) := by decide +kernel
theorem d_M_seal_26 : decode b_M_seal 26 = .ok (.if_icmp .ge 26, 3) := by decide +kernel
theorem d_M_seal_29 : decode b_M_seal 29 = .ok (.iload_n 1, 1) := by decide +kernel
theorem d_M_seal_30 : decode b_M_seal 30 = .ok (.aload_n 0, 1) := by decide +kernel
theorem d_M_seal_31 : decode b_M_seal 31 = .ok (.getfield 7, 3) := by decide +kernel
theorem d_M_seal_34 : decode b_M_seal 34 = .ok (.iload_n 2, 1) := by decide +kernel
theorem d_M_seal_35 : decode b_M_seal 35 = .ok (.iaload, 1) := by decide +kernel
theorem d_M_seal_36 : decode b_M_seal 36 = .ok (.ifCond .le 7, 3) := by decide +kernel
theorem d_M_seal_39 : decode b_M_seal 39 = .ok (.iconst 1, 1) := by decide +kernel
theorem d_M_seal_40 : decode b_M_seal 40 = .ok (.goto 4, 3) := by decide +kernel
theorem d_M_seal_43 : decode b_M_seal 43 = .ok (.iconst 0, 1) := by decide +kernel
theorem d_M_seal_44 : decode b_M_seal 44 = .ok (.iadd, 1) := by decide +kernel
theorem d_M_seal_45 : decode b_M_seal 45 = .ok (.istore_n 1, 1) := by decide +kernel
theorem d_M_seal_46 : decode b_M_seal 46 = .ok (.iinc 2 1, 3) := by decide +kernel
theorem d_M_seal_49 : decode b_M_seal 49 = .ok (.goto (-26), 3) := by decide +kernel
theorem d_M_seal_52 : decode b_M_seal 52 = .ok (.iload_n 1, 1) := by decide +kernel
theorem d_M_seal_53 : decode b_M_seal 53 = .ok (.ireturn, 1) := by decide +kernel
theorem d_M_isFirst_0 : decode b_M_isFirst 0 = .ok (.aload_n 0, 1) := by decide +kernel
theorem d_M_isFirst_1 : decode b_M_isFirst 1 = .ok (.getfield 22, 3) := by decide +kernel
theorem d_M_isFirst_4 : decode b_M_isFirst 4 = .ok (.iload_n 1, 1) := by decide +kernel
theorem d_M_isFirst_5 : decode b_M_isFirst 5 = .ok (.iaload, 1) := by decide +kernel
theorem d_M_isFirst_6 : decode b_M_isFirst 6 = .ok (.aload_n 0, 1) := by decide +kernel
theorem d_M_isFirst_7 : decode b_M_isFirst 7 = .ok (.getfield 22, 3) := by decide +kernel
theorem d_M_isFirst_10 : decode b_M_isFirst 10 = .ok (.iload_n 2, 1) := by decide +kernel
theorem d_M_isFirst_11 : decode b_M_isFirst 11 = .ok (.iaload, 1) := by decide +kernel
theorem d_M_isFirst_12 : decode b_M_isFirst 12 = .ok (.if_icmp .gt 33, 3) := by decide +kernel
theorem d_M_isFirst_15 : decode b_M_isFirst 15 = .ok (.aload_n 0, 1) := by decide +kernel
theorem d_M_isFirst_16 : decode b_M_isFirst 16 = .ok (.getfield 22, 3) := by decide +kernel
theorem d_M_isFirst_19 : decode b_M_isFirst 19 = .ok (.iload_n 1, 1) := by decide +kernel
theorem d_M_isFirst_20 : decode b_M_isFirst 20 = .ok (.iaload, 1) := by decide +kernel
theorem d_M_isFirst_21 : decode b_M_isFirst 21 = .ok (.aload_n 0, 1) := by decide +kernel
theorem d_M_isFirst_22 : decode b_M_isFirst 22 = .ok (.getfield 22, 3) := by decide +kernel
theorem d_M_isFirst_25 : decode b_M_isFirst 25 = .ok (.iload_n 2, 1) := by decide +kernel
theorem d_M_isFirst_26 : decode b_M_isFirst 26 = .ok (.iaload, 1) := by decide +kernel
theorem d_M_isFirst_27 : decode b_M_isFirst 27 = .ok (.if_icmp .ne 22, 3) := by decide +kernel
theorem d_M_isFirst_30 : decode b_M_isFirst 30 = .ok (.aload_n 0, 1) := by decide +kernel
theorem d_M_isFirst_31 : decode b_M_isFirst 31 = .ok (.getfield 19, 3) := by decide +kernel
theorem d_M_isFirst_34 : decode b_M_isFirst 34 = .ok (.iload_n 1, 1) := by decide +kernel
theorem d_M_isFirst_35 : decode b_M_isFirst 35 = .ok (.iaload, 1) := by decide +kernel
theorem d_M_isFirst_36 : decode b_M_isFirst 36 = .ok (.aload_n 0, 1) := by decide +kernel
theorem d_M_isFirst_37 : decode b_M_isFirst 37 = .ok (.getfield 19, 3) := by decide +kernel
theorem d_M_isFirst_40 : decode b_M_isFirst 40 = .ok (.iload_n 2, 1) := by decide +kernel
theorem d_M_isFirst_41 : decode b_M_isFirst 41 = .ok (.iaload, 1) := by decide +kernel
theorem d_M_isFirst_42 : decode b_M_isFirst 42 = .ok (.if_icmp .ge 7, 3) := by decide +kernel
theorem d_M_isFirst_45 : decode b_M_isFirst 45 = .ok (.iconst 1, 1) := by decide +kernel
theorem d_M_isFirst_46 : decode b_M_isFirst 46 = .ok (.goto 4, 3) := by decide +kernel
theorem d_M_isFirst_49 : decode b_M_isFirst 49 = .ok (.iconst 0, 1) := by decide +kernel
theorem d_M_isFirst_50 : decode b_M_isFirst 50 = .ok (.ireturn, 1) := by decide +kernel
theorem d_M_runner_0 : decode b_M_runner 0 = .ok (.iconst (-1), 1) := by decide +kernel
theorem d_M_runner_1 : decode b_M_runner 1 = .ok (.istore_n 1, 1) := by decide +kernel
theorem d_M_runner_2 : decode b_M_runner 2 = .ok (.iconst 0, 1) := by decide +kernel
theorem d_M_runner_3 : decode b_M_runner 3 = .ok (.istore_n 2, 1) := by decide +kernel
theorem d_M_runner_4 : decode b_M_runner 4 = .ok (.iload_n 2, 1) := by decide +kernel
theorem d_M_runner_5 : decode b_M_runner 5 = .ok (.bipush 8, 2) := by decide +kernel
theorem d_M_runner_7 : decode b_M_runner 7 = .ok (.if_icmp .ge 38, 3) := by decide +kernel
theorem d_M_runner_10 : decode b_M_runner 10 = .ok (.aload_n 0, 1) := by decide +kernel
theorem d_M_runner_11 : decode b_M_runner 11 = .ok (.getfield 19, 3) := by decide +kernel
theorem d_M_runner_14 : decode b_M_runner 14 = .ok (.iload_n 2, 1) := by decide +kernel
theorem d_M_runner_15 : decode b_M_runner 15 = .ok (.iaload, 1) := by decide +kernel
theorem d_M_runner_16 : decode b_M_runner 16 = .ok (.ifCond .le 21, 3) := by decide +kernel
theorem d_M_runner_19 : decode b_M_runner 19 = .ok (.iload_n 1, 1) := by decide +kernel
theorem d_M_runner_20 : decode b_M_runner 20 = .ok (.iconst (-1), 1) := by decide +kernel
theorem d_M_runner_21 : decode b_M_runner 21 = .ok (.if_icmp .eq 12, 3) := by decide +kernel
theorem d_M_runner_24 : decode b_M_runner 24 = .ok (.aload_n 0, 1) := by decide +kernel
theorem d_M_runner_25 : decode b_M_runner 25 = .ok (.iload_n 2, 1) := by decide +kernel
theorem d_M_runner_26 : decode b_M_runner 26 = .ok (.iload_n 1, 1) := by decide +kernel
theorem d_M_runner_27 : decode b_M_runner 27 = .ok (.invokevirtual 68, 3) := by decide +kernel
theorem d_M_runner_30 : decode b_M_runner 30 = .ok (.ifCond .eq 7, 3) := by decide +kernel
theorem d_M_runner_33 : decode b_M_runner 33 = .ok (.iload_n 2, 1) := by decide +kernel
theorem d_M_runner_34 : decode b_M_runner 34 = .ok (.goto 4, 3) := by decide +kernel
theorem d_M_runner_37 : decode b_M_runner 37 = .ok (.iload_n 1, 1) := by decide +kernel
theorem d_M_runner_38 : decode b_M_runner 38 = .ok (.istore_n 1, 1) := by decide +kernel
theorem d_M_runner_39 : decode b_M_runner 39 = .ok (.iinc 2 1, 3) := by decide +kernel
theorem d_M_runner_42 : decode b_M_runner 42 = .ok (.goto (-38), 3) := by decide +kernel
theorem d_M_runner_45 : decode b_M_runner 45 = .ok (.iload_n 1, 1) := by decide +kernel
theorem d_M_runner_46 : decode b_M_runner 46 = .ok (.ireturn, 1) := by decide +kernel
theorem d_M_add_0 : decode b_M_add 0 = .ok (.aload_n 0, 1) := by decide +kernel
theorem d_M_add_1 : decode b_M_add 1 = .ok (.getfield 43, 3) := by decide +kernel
theorem d_M_add_4 : decode b_M_add 4 = .ok (.aload_n 0, 1) := by decide +kernel
theorem d_M_add_5 : decode b_M_add 5 = .ok (.getfield 72, 3) := by decide +kernel
theorem d_M_add_8 : decode b_M_add 8 = .ok (.bipush 40, 2) := by decide +kernel
theorem d_M_add_10 : decode b_M_add 10 = .ok (.irem, 1) := by decide +kernel
theorem d_M_add_11 : decode b_M_add 11 = .ok (.aload_n 0, 1) := by decide +kernel
theorem d_M_add_12 : decode b_M_add 12 = .ok (.getfield 75, 3) := by decide +kernel
theorem d_M_add_15 : decode b_M_add 15 = .ok (.ldc 78, 2) := by decide +kernel
theorem d_M_add_17 : decode b_M_add 17 = .ok (.irem, 1) := by decide +kernel
theorem d_M_add_18 : decode b_M_add 18 = .ok (.sipush 4096, 3) := by decide +kernel
theorem d_M_add_21 : decode b_M_add 21 = .ok (.imul, 1) := by decide +kernel
theorem d_M_add_22 : decode b_M_add 22 = .ok (.sipush 256, 3) := by decide +kernel
theorem d_M_add_25 : decode b_M_add 25 = .ok (.iload_n 3, 1) := by decide +kernel
theorem d_M_add_26 : decode b_M_add 26 = .ok (.imul, 1) := by decide +kernel
theorem d_M_add_27 : decode b_M_add 27 = .ok (.iadd, 1) := by decide +kernel
theorem d_M_add_28 : decode b_M_add 28 = .ok (.bipush 16, 2) := by decide +kernel
theorem d_M_add_30 : decode b_M_add 30 = .ok (.iload_n 2, 1) := by decide +kernel
theorem d_M_add_31 : decode b_M_add 31 = .ok (.imul, 1) := by decide +kernel
theorem d_M_add_32 : decode b_M_add 32 = .ok (.iadd, 1) := by decide +kernel
theorem d_M_add_33 : decode b_M_add 33 = .ok (.iload_n 1, 1) := by decide +kernel
theorem d_M_add_34 : decode b_M_add 34 = .ok (.iadd, 1) := by decide +kernel
theorem d_M_add_35 : decode b_M_add 35 = .ok (.iastore, 1) := by decide +kernel
theorem d_M_add_36 : decode b_M_add 36 = .ok (.aload_n 0, 1) := by decide +kernel
theorem d_M_add_37 : decode b_M_add 37 = .ok (.dup, 1) := by decide +kernel
theorem d_M_add_38 : decode b_M_add 38 = .ok (.getfield 72, 3) := by decide +kernel
theorem d_M_add_41 : decode b_M_add 41 = .ok (.iconst 1, 1) := by decide +kernel
theorem d_M_add_42 : decode b_M_add 42 = .ok (.iadd, 1) := by decide +kernel
theorem d_M_add_43 : decode b_M_add 43 = .ok (.putfield 72, 3) := by decide +kernel
theorem d_M_add_46 : decode b_M_add 46 = .ok (.return_, 1) := by decide +kernel
theorem d_M_tell_0 : decode b_M_tell 0 = .ok (.aload_n 0, 1) := by decide +kernel
theorem d_M_tell_1 : decode b_M_tell 1 = .ok (.iload_n 1, 1) := by decide +kernel
theorem d_M_tell_2 : decode b_M_tell 2 = .ok (.iload_n 2, 1) := by decide +kernel
theorem d_M_tell_3 : decode b_M_tell 3 = .ok (.iload_n 3, 1) := by decide +kernel
theorem d_M_tell_4 : decode b_M_tell 4 = .ok (.invokevirtual 79, 3) := by decide +kernel
theorem d_M_tell_7 : decode b_M_tell 7 = .ok (.aload_n 0, 1) := by decide +kernel
theorem d_M_tell_8 : decode b_M_tell 8 = .ok (.invokevirtual 83, 3) := by decide +kernel
theorem d_M_tell_11 : decode b_M_tell 11 = .ok (.istore 5, 2) := by decide +kernel
theorem d_M_tell_13 : decode b_M_tell 13 = .ok (.iload 5, 2) := by decide +kernel
theorem d_M_tell_15 : decode b_M_tell 15 = .ok (.iload 4, 2) := by decide +kernel
theorem d_M_tell_17 : decode b_M_tell 17 = .ok (.if_icmp .eq 23, 3) := by decide +kernel
theorem d_M_tell_20 : decode b_M_tell 20 = .ok (.aload_n 0, 1) := by decide +kernel
theorem d_M_tell_21 : decode b_M_tell 21 = .ok (.iconst 5, 1) := by decide +kernel
theorem d_M_tell_22 : decode b_M_tell 22 = .ok (.iload 5, 2) := by decide +kernel
theorem d_M_tell_24 : decode b_M_tell 24 = .ok (.iconst (-1), 1) := by decide +kernel
theorem d_M_tell_25 : decode b_M_tell 25 = .ok (.if_icmp .ne 8, 3) := by decide +kernel
theorem d_M_tell_28 : decode b_M_tell 28 = .ok (.bipush 8, 2) := by decide +kernel
theorem d_M_tell_30 : decode b_M_tell 30 = .ok (.goto 5, 3) := by decide +kernel
theorem d_M_tell_33 : decode b_M_tell 33 = .ok (.iload 5, 2) := by decide +kernel
theorem d_M_tell_35 : decode b_M_tell 35 = .ok (.bipush 15, 2) := by decide +kernel
theorem d_M_tell_37 : decode b_M_tell 37 = .ok (.invokevirtual 79, 3) := by decide +kernel
theorem d_M_tell_40 : decode b_M_tell 40 = .ok (.return_, 1) := by decide +kernel
theorem d_M_release_0 : decode b_M_release 0 = .ok (.aload_n 0, 1) := by decide +kernel
theorem d_M_release_1 : decode b_M_release 1 = .ok (.aload_n 0, 1) := by decide +kernel
theorem d_M_release_2 : decode b_M_release 2 = .ok (.getfield 54, 3) := by decide +kernel
theorem d_M_release_5 : decode b_M_release 5 = .ok (.ifCond .eq 11, 3) := by decide +kernel
theorem d_M_release_8 : decode b_M_release 8 = .ok (.aload_n 0, 1) := by decide +kernel
theorem d_M_release_9 : decode b_M_release 9 = .ok (.iload_n 1, 1) := by decide +kernel
theorem d_M_release_10 : decode b_M_release 10 = .ok (.invokevirtual 87, 3) := by decide +kernel
theorem d_M_release_13 : decode b_M_release 13 = .ok (.ifCond .eq 7, 3) := by decide +kernel
theorem d_M_release_16 : decode b_M_release 16 = .ok (.iconst 1, 1) := by decide +kernel
theorem d_M_release_17 : decode b_M_release 17 = .ok (.goto 4, 3) := by decide +kernel
theorem d_M_release_20 : decode b_M_release 20 = .ok (.iconst 0, 1) := by decide +kernel
theorem d_M_release_21 : decode b_M_release 21 = .ok (.aload_n 0, 1) := by decide +kernel
theorem d_M_release_22 : decode b_M_release 22 = .ok (.iload_n 1, 1) := by decide +kernel
theorem d_M_release_23 : decode b_M_release 23 = .ok (.invokevirtual 58, 3) := by decide +kernel
theorem d_M_release_26 : decode b_M_release 26 = .ok (.ifCond .ne 7, 3) := by decide +kernel
theorem d_M_release_29 : decode b_M_release 29 = .ok (.iconst 1, 1) := by decide +kernel
theorem d_M_release_30 : decode b_M_release 30 = .ok (.goto 4, 3) := by decide +kernel
theorem d_M_release_33 : decode b_M_release 33 = .ok (.iconst 0, 1) := by decide +kernel
theorem d_M_release_34 : decode b_M_release 34 = .ok (.invokevirtual 61, 3) := by decide +kernel
theorem d_M_release_37 : decode b_M_release 37 = .ok (.ifCond .eq 5, 3) := by decide +kernel
theorem d_M_release_40 : decode b_M_release 40 = .ok (.iconst 0, 1) := by decide +kernel
theorem d_M_release_41 : decode b_M_release 41 = .ok (.ireturn, 1) := by decide +kernel
theorem d_M_release_42 : decode b_M_release 42 = .ok (.aload_n 0, 1) := by decide +kernel
theorem d_M_release_43 : decode b_M_release 43 = .ok (.invokevirtual 83, 3) := by decide +kernel
theorem d_M_release_46 : decode b_M_release 46 = .ok (.istore_n 2, 1) := by decide +kernel
theorem d_M_release_47 : decode b_M_release 47 = .ok (.aload_n 0, 1) := by decide +kernel
theorem d_M_release_48 : decode b_M_release 48 = .ok (.dup, 1) := by decide +kernel
theorem d_M_release_49 : decode b_M_release 49 = .ok (.getfield 90, 3) := by decide +kernel
theorem d_M_release_52 : decode b_M_release 52 = .ok (.iconst 1, 1) := by decide +kernel
theorem d_M_release_53 : decode b_M_release 53 = .ok (.iadd, 1) := by decide +kernel
theorem d_M_release_54 : decode b_M_release 54 = .ok (.putfield 90, 3) := by decide +kernel
theorem d_M_release_57 : decode b_M_release 57 = .ok (.aload_n 0, 1) := by decide +kernel
theorem d_M_release_58 : decode b_M_release 58 = .ok (.getfield 19, 3) := by decide +kernel
theorem d_M_release_61 : decode b_M_release 61 = .ok (.iload_n 1, 1) := by decide +kernel
theorem d_M_release_62 : decode b_M_release 62 = .ok (.aload_n 0, 1) := by decide +kernel
theorem d_M_release_63 : decode b_M_release 63 = .ok (.getfield 90, 3) := by decide +kernel
theorem d_M_release_66 : decode b_M_release 66 = .ok (.iastore, 1) := by decide +kernel
theorem d_M_release_67 : decode b_M_release 67 = .ok (.aload_n 0, 1) := by decide +kernel
theorem d_M_release_68 : decode b_M_release 68 = .ok (.getfield 22, 3) := by decide +kernel
theorem d_M_release_71 : decode b_M_release 71 = .ok (.iload_n 1, 1) := by decide +kernel
theorem d_M_release_72 : decode b_M_release 72 = .ok (.aload_n 0, 1) := by decide +kernel
theorem d_M_release_73 : decode b_M_release 73 = .ok (.getfield 7, 3) := by decide +kernel
theorem d_M_release_76 : decode b_M_release 76 = .ok (.iload_n 1, 1) := by decide +kernel
theorem d_M_release_77 : decode b_M_release 77 = .ok (.iaload, 1) := by decide +kernel
theorem d_M_release_78 : decode b_M_release 78 = .ok (.iastore, 1) := by decide +kernel
theorem d_M_release_79 : decode b_M_release 79 = .ok (.aload_n 0, 1) := by decide +kernel
theorem d_M_release_80 : decode b_M_release 80 = .ok (.getfield 25, 3) := by decide +kernel
theorem d_M_release_83 : decode b_M_release 83 = .ok (.iload_n 1, 1) := by decide +kernel
theorem d_M_release_84 : decode b_M_release 84 = .ok (.iconst 0, 1) := by decide +kernel
theorem d_M_release_85 : decode b_M_release 85 = .ok (.iastore, 1) := by decide +kernel
theorem d_M_release_86 : decode b_M_release 86 = .ok (.aload_n 0, 1) := by decide +kernel
theorem d_M_release_87 : decode b_M_release 87 = .ok (.getfield 28, 3) := by decide +kernel
theorem d_M_release_90 : decode b_M_release 90 = .ok (.iload_n 1, 1) := by decide +kernel
theorem d_M_release_91 : decode b_M_release 91 = .ok (.iconst 0, 1) := by decide +kernel
theorem d_M_release_92 : decode b_M_release 92 = .ok (.iastore, 1) := by decide +kernel
theorem d_M_release_93 : decode b_M_release 93 = .ok (.aload_n 0, 1) := by decide +kernel
theorem d_M_release_94 : decode b_M_release 94 = .ok (.iconst 1, 1) := by decide +kernel
theorem d_M_release_95 : decode b_M_release 95 = .ok (.iload_n 1, 1) := by decide +kernel
theorem d_M_release_96 : decode b_M_release 96 = .ok (.bipush 15, 2) := by decide +kernel
theorem d_M_release_98 : decode b_M_release 98 = .ok (.iload_n 2, 1) := by decide +kernel
theorem d_M_release_99 : decode b_M_release 99 = .ok (.invokevirtual 93, 3) := by decide +kernel
theorem d_M_release_102 : decode b_M_release 102 = .ok (.aload_n 0, 1) := by decide +kernel
theorem d_M_release_103 : decode b_M_release 103 = .ok (.getfield 90, 3) := by decide +kernel
theorem d_M_release_106 : decode b_M_release 106 = .ok (.ireturn, 1) := by decide +kernel
theorem d_M_top_0 : decode b_M_top 0 = .ok (.iconst 0, 1) := by decide +kernel
theorem d_M_top_1 : decode b_M_top 1 = .ok (.istore_n 2, 1) := by decide +kernel
theorem d_M_top_2 : decode b_M_top 2 = .ok (.iconst 0, 1) := by decide +kernel
theorem d_M_top_3 : decode b_M_top 3 = .ok (.istore_n 3, 1) := by decide +kernel
theorem d_M_top_4 : decode b_M_top 4 = .ok (.iload_n 3, 1) := by decide +kernel
theorem d_M_top_5 : decode b_M_top 5 = .ok (.bipush 8, 2) := by decide +kernel
theorem d_M_top_7 : decode b_M_top 7 = .ok (.if_icmp .ge 44, 3) := by decide +kernel
theorem d_M_top_10 : decode b_M_top 10 = .ok (.aload_n 0, 1) := by decide +kernel
theorem d_M_top_11 : decode b_M_top 11 = .ok (.getfield 31, 3) := by decide +kernel
theorem d_M_top_14 : decode b_M_top 14 = .ok (.bipush 6, 2) := by decide +kernel
theorem d_M_top_16 : decode b_M_top 16 = .ok (.iload_n 3, 1) := by decide +kernel
theorem d_M_top_17 : decode b_M_top 17 = .ok (.imul, 1) := by decide +kernel
theorem d_M_top_18 : decode b_M_top 18 = .ok (.iload_n 1, 1) := by decide +kernel
theorem d_M_top_19 : decode b_M_top 19 = .ok (.iadd, 1) := by decide +kernel
theorem d_M_top_20 : decode b_M_top 20 = .ok (.iaload, 1) := by decide +kernel
theorem d_M_top_21 : decode b_M_top 21 = .ok (.ifCond .le 22, 3) := by decide +kernel
theorem d_M_top_24 : decode b_M_top 24 = .ok (.aload_n 0, 1) := by decide +kernel
theorem d_M_top_25 : decode b_M_top 25 = .ok (.getfield 7, 3) := by decide +kernel
theorem d_M_top_28 : decode b_M_top 28 = .ok (.iload_n 3, 1) := by decide +kernel
theorem d_M_top_29 : decode b_M_top 29 = .ok (.iaload, 1) := by decide +kernel
theorem d_M_top_30 : decode b_M_top 30 = .ok (.iload_n 2, 1) := by decide +kernel
theorem d_M_top_31 : decode b_M_top 31 = .ok (.if_icmp .le 12, 3) := by decide +kernel
theorem d_M_top_34 : decode b_M_top 34 = .ok (.aload_n 0, 1) := by decide +kernel
theorem d_M_top_35 : decode b_M_top 35 = .ok (.getfield 7, 3) := by decide +kernel
theorem d_M_top_38 : decode b_M_top 38 = .ok (.iload_n 3, 1) := by decide +kernel
theorem d_M_top_39 : decode b_M_top 39 = .ok (.iaload, 1) := by decide +kernel
theorem d_M_top_40 : decode b_M_top 40 = .ok (.goto 4, 3) := by decide +kernel
theorem d_M_top_43 : decode b_M_top 43 = .ok (.iload_n 2, 1) := by decide +kernel
theorem d_M_top_44 : decode b_M_top 44 = .ok (.istore_n 2, 1) := by decide +kernel
theorem d_M_top_45 : decode b_M_top 45 = .ok (.iinc 3 1, 3) := by decide +kernel
theorem d_M_top_48 : decode b_M_top 48 = .ok (.goto (-44), 3) := by decide +kernel
theorem d_M_top_51 : decode b_M_top 51 = .ok (.iload_n 2, 1) := by decide +kernel
theorem d_M_top_52 : decode b_M_top 52 = .ok (.ireturn, 1) := by decide +kernel
theorem d_M_take_0 : decode b_M_take 0 = .ok (.aload_n 0, 1) := by decide +kernel
theorem d_M_take_1 : decode b_M_take 1 = .ok (.invokevirtual 83, 3) := by decide +kernel
theorem d_M_take_4 : decode b_M_take 4 = .ok (.istore_n 2, 1) := by decide +kernel
theorem d_M_take_5 : decode b_M_take 5 = .ok (.iload_n 1, 1) := by decide +kernel
theorem d_M_take_6 : decode b_M_take 6 = .ok (.invokestatic 65, 3) := by decide +kernel
theorem d_M_take_9 : decode b_M_take 9 = .ok (.ifCond .eq 17, 3) := by decide +kernel
theorem d_M_take_12 : decode b_M_take 12 = .ok (.aload_n 0, 1) := by decide +kernel
theorem d_M_take_13 : decode b_M_take 13 = .ok (.getfield 34, 3) := by decide +kernel
theorem d_M_take_16 : decode b_M_take 16 = .ok (.iload_n 1, 1) := by decide +kernel
theorem d_M_take_17 : decode b_M_take 17 = .ok (.iaload, 1) := by decide +kernel
theorem d_M_take_18 : decode b_M_take 18 = .ok (.iconst (-1), 1) := by decide +kernel
theorem d_M_take_19 : decode b_M_take 19 = .ok (.if_icmp .eq 7, 3) := by decide +kernel
theorem d_M_take_22 : decode b_M_take 22 = .ok (.iconst 1, 1) := by decide +kernel
theorem d_M_take_23 : decode b_M_take 23 = .ok (.goto 4, 3) := by decide +kernel
theorem d_M_take_26 : decode b_M_take 26 = .ok (.iconst 0, 1) := by decide +kernel
theorem d_M_take_27 : decode b_M_take 27 = .ok (.istore_n 3, 1) := by decide +kernel
theorem d_M_take_28 : decode b_M_take 28 = .ok (.iload_n 1, 1) := by decide +kernel
theorem d_M_take_29 : decode b_M_take 29 = .ok (.invokestatic 65, 3) := by decide +kernel
theorem d_M_take_32 : decode b_M_take 32 = .ok (.ifCond .eq 26, 3) := by decide +kernel
theorem d_M_take_35 : decode b_M_take 35 = .ok (.iload_n 2, 1) := by decide +kernel
theorem d_M_take_36 : decode b_M_take 36 = .ok (.iconst (-1), 1) := by decide +kernel
theorem d_M_take_37 : decode b_M_take 37 = .ok (.if_icmp .eq 21, 3) := by decide +kernel
theorem d_M_take_40 : decode b_M_take 40 = .ok (.aload_n 0, 1) := by decide +kernel
theorem d_M_take_41 : decode b_M_take 41 = .ok (.getfield 31, 3) := by decide +kernel
theorem d_M_take_44 : decode b_M_take 44 = .ok (.bipush 6, 2) := by decide +kernel
theorem d_M_take_46 : decode b_M_take 46 = .ok (.iload_n 2, 1) := by decide +kernel
theorem d_M_take_47 : decode b_M_take 47 = .ok (.imul, 1) := by decide +kernel
theorem d_M_take_48 : decode b_M_take 48 = .ok (.iload_n 1, 1) := by decide +kernel
theorem d_M_take_49 : decode b_M_take 49 = .ok (.iadd, 1) := by decide +kernel
theorem d_M_take_50 : decode b_M_take 50 = .ok (.iaload, 1) := by decide +kernel
theorem d_M_take_51 : decode b_M_take 51 = .ok (.ifCond .le 7, 3) := by decide +kernel
theorem d_M_take_54 : decode b_M_take 54 = .ok (.iconst 1, 1) := by decide +kernel
theorem d_M_take_55 : decode b_M_take 55 = .ok (.goto 4, 3) := by decide +kernel
theorem d_M_take_58 : decode b_M_take 58 = .ok (.iconst 0, 1) := by decide +kernel
theorem d_M_take_59 : decode b_M_take 59 = .ok (.istore 4, 2) := by decide +kernel
theorem d_M_take_61 : decode b_M_take 61 = .ok (.aload_n 0, 1) := by decide +kernel
theorem d_M_take_62 : decode b_M_take 62 = .ok (.aload_n 0, 1) := by decide +kernel
theorem d_M_take_63 : decode b_M_take 63 = .ok (.getfield 54, 3) := by decide +kernel
theorem d_M_take_66 : decode b_M_take 66 = .ok (.ifCond .eq 12, 3) := by decide +kernel
theorem d_M_take_69 : decode b_M_take 69 = .ok (.iload_n 2, 1) := by decide +kernel
theorem d_M_take_70 : decode b_M_take 70 = .ok (.iconst (-1), 1) := by decide +kernel
theorem d_M_take_71 : decode b_M_take 71 = .ok (.if_icmp .eq 7, 3) := by decide +kernel
theorem d_M_take_74 : decode b_M_take 74 = .ok (.iload_n 3, 1) := by decide +kernel
theorem d_M_take_75 : decode b_M_take 75 = .ok (.ifCond .eq 7, 3) := by decide +kernel
theorem d_M_take_78 : decode b_M_take 78 = .ok (.iconst 1, 1) := by decide +kernel
theorem d_M_take_79 : decode b_M_take 79 = .ok (.goto 4, 3) := by decide +kernel
theorem d_M_take_82 : decode b_M_take 82 = .ok (.iconst 0, 1) := by decide +kernel
theorem d_M_take_83 : decode b_M_take 83 = .ok (.iload 4, 2) := by decide +kernel
theorem d_M_take_85 : decode b_M_take 85 = .ok (.ifCond .ne 7, 3) := by decide +kernel
theorem d_M_take_88 : decode b_M_take 88 = .ok (.iconst 1, 1) := by decide +kernel
theorem d_M_take_89 : decode b_M_take 89 = .ok (.goto 4, 3) := by decide +kernel
theorem d_M_take_92 : decode b_M_take 92 = .ok (.iconst 0, 1) := by decide +kernel
theorem d_M_take_93 : decode b_M_take 93 = .ok (.invokevirtual 61, 3) := by decide +kernel
theorem d_M_take_96 : decode b_M_take 96 = .ok (.ifCond .eq 5, 3) := by decide +kernel
theorem d_M_take_99 : decode b_M_take 99 = .ok (.iconst 0, 1) := by decide +kernel
theorem d_M_take_100 : decode b_M_take 100 = .ok (.ireturn, 1) := by decide +kernel
theorem d_M_take_101 : decode b_M_take 101 = .ok (.aload_n 0, 1) := by decide +kernel
theorem d_M_take_102 : decode b_M_take 102 = .ok (.dup, 1) := by decide +kernel
theorem d_M_take_103 : decode b_M_take 103 = .ok (.getfield 97, 3) := by decide +kernel
theorem d_M_take_106 : decode b_M_take 106 = .ok (.iconst 1, 1) := by decide +kernel
theorem d_M_take_107 : decode b_M_take 107 = .ok (.iadd, 1) := by decide +kernel
theorem d_M_take_108 : decode b_M_take 108 = .ok (.putfield 97, 3) := by decide +kernel
theorem d_M_take_111 : decode b_M_take 111 = .ok (.aload_n 0, 1) := by decide +kernel
theorem d_M_take_112 : decode b_M_take 112 = .ok (.getfield 40, 3) := by decide +kernel
theorem d_M_take_115 : decode b_M_take 115 = .ok (.iload_n 1, 1) := by decide +kernel
theorem d_M_take_116 : decode b_M_take 116 = .ok (.aload_n 0, 1) := by decide +kernel
theorem d_M_take_117 : decode b_M_take 117 = .ok (.getfield 97, 3) := by decide +kernel
theorem d_M_take_120 : decode b_M_take 120 = .ok (.iastore, 1) := by decide +kernel
theorem d_M_take_121 : decode b_M_take 121 = .ok (.aload_n 0, 1) := by decide +kernel
theorem d_M_take_122 : decode b_M_take 122 = .ok (.getfield 34, 3) := by decide +kernel
theorem d_M_take_125 : decode b_M_take 125 = .ok (.iload_n 1, 1) := by decide +kernel
theorem d_M_take_126 : decode b_M_take 126 = .ok (.iload_n 2, 1) := by decide +kernel
theorem d_M_take_127 : decode b_M_take 127 = .ok (.iastore, 1) := by decide +kernel
theorem d_M_take_128 : decode b_M_take 128 = .ok (.aload_n 0, 1) := by decide +kernel
theorem d_M_take_129 : decode b_M_take 129 = .ok (.getfield 37, 3) := by decide +kernel
theorem d_M_take_132 : decode b_M_take 132 = .ok (.iload_n 1, 1) := by decide +kernel
theorem d_M_take_133 : decode b_M_take 133 = .ok (.aload_n 0, 1) := by decide +kernel
theorem d_M_take_134 : decode b_M_take 134 = .ok (.getfield 22, 3) := by decide +kernel
theorem d_M_take_137 : decode b_M_take 137 = .ok (.iload_n 2, 1) := by decide +kernel
theorem d_M_take_138 : decode b_M_take 138 = .ok (.iaload, 1) := by decide +kernel
theorem d_M_take_139 : decode b_M_take 139 = .ok (.iastore, 1) := by decide +kernel
theorem d_M_take_140 : decode b_M_take 140 = .ok (.aload_n 0, 1) := by decide +kernel
theorem d_M_take_141 : decode b_M_take 141 = .ok (.iload_n 1, 1) := by decide +kernel
theorem d_M_take_142 : decode b_M_take 142 = .ok (.invokevirtual 100, 3) := by decide +kernel
theorem d_M_take_145 : decode b_M_take 145 = .ok (.istore 5, 2) := by decide +kernel
theorem d_M_take_147 : decode b_M_take 147 = .ok (.aload_n 0, 1) := by decide +kernel
theorem d_M_take_148 : decode b_M_take 148 = .ok (.getfield 22, 3) := by decide +kernel
theorem d_M_take_151 : decode b_M_take 151 = .ok (.iload_n 2, 1) := by decide +kernel
theorem d_M_take_152 : decode b_M_take 152 = .ok (.iload 5, 2) := by decide +kernel
theorem d_M_take_154 : decode b_M_take 154 = .ok (.aload_n 0, 1) := by decide +kernel
theorem d_M_take_155 : decode b_M_take 155 = .ok (.getfield 22, 3) := by decide +kernel
theorem d_M_take_158 : decode b_M_take 158 = .ok (.iload_n 2, 1) := by decide +kernel
theorem d_M_take_159 : decode b_M_take 159 = .ok (.iaload, 1) := by decide +kernel
theorem d_M_take_160 : decode b_M_take 160 = .ok (.if_icmp .le 8, 3) := by decide +kernel
theorem d_M_take_163 : decode b_M_take 163 = .ok (.iload 5, 2) := by decide +kernel
theorem d_M_take_165 : decode b_M_take 165 = .ok (.goto 9, 3) := by decide +kernel
theorem d_M_take_168 : decode b_M_take 168 = .ok (.aload_n 0, 1) := by decide +kernel
theorem d_M_take_169 : decode b_M_take 169 = .ok (.getfield 22, 3) := by decide +kernel
theorem d_M_take_172 : decode b_M_take 172 = .ok (.iload_n 2, 1) := by decide +kernel
theorem d_M_take_173 : decode b_M_take 173 = .ok (.iaload, 1) := by decide +kernel
theorem d_M_take_174 : decode b_M_take 174 = .ok (.iastore, 1) := by decide +kernel
theorem d_M_take_175 : decode b_M_take 175 = .ok (.aload_n 0, 1) := by decide +kernel
theorem d_M_take_176 : decode b_M_take 176 = .ok (.iconst 2, 1) := by decide +kernel
theorem d_M_take_177 : decode b_M_take 177 = .ok (.iload_n 2, 1) := by decide +kernel
theorem d_M_take_178 : decode b_M_take 178 = .ok (.iload_n 1, 1) := by decide +kernel
theorem d_M_take_179 : decode b_M_take 179 = .ok (.iload_n 2, 1) := by decide +kernel
theorem d_M_take_180 : decode b_M_take 180 = .ok (.invokevirtual 93, 3) := by decide +kernel
theorem d_M_take_183 : decode b_M_take 183 = .ok (.aload_n 0, 1) := by decide +kernel
theorem d_M_take_184 : decode b_M_take 184 = .ok (.getfield 22, 3) := by decide +kernel
theorem d_M_take_187 : decode b_M_take 187 = .ok (.iload_n 2, 1) := by decide +kernel
theorem d_M_take_188 : decode b_M_take 188 = .ok (.iaload, 1) := by decide +kernel
theorem d_M_take_189 : decode b_M_take 189 = .ok (.ireturn, 1) := by decide +kernel
theorem d_M_latest_0 : decode b_M_latest 0 = .ok (.iconst (-1), 1) := by decide +kernel
theorem d_M_latest_1 : decode b_M_latest 1 = .ok (.istore_n 2, 1) := by decide +kernel
theorem d_M_latest_2 : decode b_M_latest 2 = .ok (.iconst 0, 1) := by decide +kernel
theorem d_M_latest_3 : decode b_M_latest 3 = .ok (.istore_n 3, 1) := by decide +kernel
theorem d_M_latest_4 : decode b_M_latest 4 = .ok (.iload_n 3, 1) := by decide +kernel
theorem d_M_latest_5 : decode b_M_latest 5 = .ok (.bipush 6, 2) := by decide +kernel
theorem d_M_latest_7 : decode b_M_latest 7 = .ok (.if_icmp .ge 45, 3) := by decide +kernel
theorem d_M_latest_10 : decode b_M_latest 10 = .ok (.aload_n 0, 1) := by decide +kernel
theorem d_M_latest_11 : decode b_M_latest 11 = .ok (.getfield 34, 3) := by decide +kernel
theorem d_M_latest_14 : decode b_M_latest 14 = .ok (.iload_n 3, 1) := by decide +kernel
theorem d_M_latest_15 : decode b_M_latest 15 = .ok (.iaload, 1) := by decide +kernel
theorem d_M_latest_16 : decode b_M_latest 16 = .ok (.iload_n 1, 1) := by decide +kernel
theorem d_M_latest_17 : decode b_M_latest 17 = .ok (.if_icmp .ne 27, 3) := by decide +kernel
theorem d_M_latest_20 : decode b_M_latest 20 = .ok (.iload_n 2, 1) := by decide +kernel
theorem d_M_latest_21 : decode b_M_latest 21 = .ok (.iconst (-1), 1) := by decide +kernel
theorem d_M_latest_22 : decode b_M_latest 22 = .ok (.if_icmp .eq 18, 3) := by decide +kernel
theorem d_M_latest_25 : decode b_M_latest 25 = .ok (.aload_n 0, 1) := by decide +kernel
theorem d_M_latest_26 : decode b_M_latest 26 = .ok (.getfield 40, 3) := by decide +kernel
theorem d_M_latest_29 : decode b_M_latest 29 = .ok (.iload_n 3, 1) := by decide +kernel
theorem d_M_latest_30 : decode b_M_latest 30 = .ok (.iaload, 1) := by decide +kernel
theorem d_M_latest_31 : decode b_M_latest 31 = .ok (.aload_n 0, 1) := by decide +kernel
theorem d_M_latest_32 : decode b_M_latest 32 = .ok (.getfield 40, 3) := by decide +kernel
theorem d_M_latest_35 : decode b_M_latest 35 = .ok (.iload_n 2, 1) := by decide +kernel
theorem d_M_latest_36 : decode b_M_latest 36 = .ok (.iaload, 1) := by decide +kernel
theorem d_M_latest_37 : decode b_M_latest 37 = .ok (.if_icmp .le 7, 3) := by decide +kernel
theorem d_M_latest_40 : decode b_M_latest 40 = .ok (.iload_n 3, 1) := by decide +kernel
theorem d_M_latest_41 : decode b_M_latest 41 = .ok (.goto 4, 3) := by decide +kernel
theorem d_M_latest_44 : decode b_M_latest 44 = .ok (.iload_n 2, 1) := by decide +kernel
theorem d_M_latest_45 : decode b_M_latest 45 = .ok (.istore_n 2, 1) := by decide +kernel
theorem d_M_latest_46 : decode b_M_latest 46 = .ok (.iinc 3 1, 3) := by decide +kernel
theorem d_M_latest_49 : decode b_M_latest 49 = .ok (.goto (-45), 3) := by decide +kernel
theorem d_M_latest_52 : decode b_M_latest 52 = .ok (.iload_n 2, 1) := by decide +kernel
theorem d_M_latest_53 : decode b_M_latest 53 = .ok (.ireturn, 1) := by decide +kernel
theorem d_M_give_0 : decode b_M_give 0 = .ok (.aload_n 0, 1) := by decide +kernel
theorem d_M_give_1 : decode b_M_give 1 = .ok (.invokevirtual 83, 3) := by decide +kernel
theorem d_M_give_4 : decode b_M_give 4 = .ok (.istore_n 2, 1) := by decide +kernel
theorem d_M_give_5 : decode b_M_give 5 = .ok (.aload_n 0, 1) := by decide +kernel
theorem d_M_give_6 : decode b_M_give 6 = .ok (.iload_n 2, 1) := by decide +kernel
theorem d_M_give_7 : decode b_M_give 7 = .ok (.iconst (-1), 1) := by decide +kernel
theorem d_M_give_8 : decode b_M_give 8 = .ok (.if_icmp .ne 7, 3) := by decide +kernel
theorem d_M_give_11 : decode b_M_give 11 = .ok (.iconst 1, 1) := by decide +kernel
theorem d_M_give_12 : decode b_M_give 12 = .ok (.goto 4, 3) := by decide +kernel
theorem d_M_give_15 : decode b_M_give 15 = .ok (.iconst 0, 1) := by decide +kernel
theorem d_M_give_16 : decode b_M_give 16 = .ok (.iload_n 2, 1) := by decide +kernel
theorem d_M_give_17 : decode b_M_give 17 = .ok (.iconst (-1), 1) := by decide +kernel
theorem d_M_give_18 : decode b_M_give 18 = .ok (.if_icmp .eq 21, 3) := by decide +kernel
theorem d_M_give_21 : decode b_M_give 21 = .ok (.aload_n 0, 1) := by decide +kernel
theorem d_M_give_22 : decode b_M_give 22 = .ok (.iload_n 2, 1) := by decide +kernel
theorem d_M_give_23 : decode b_M_give 23 = .ok (.invokevirtual 104, 3) := by decide +kernel
theorem d_M_give_26 : decode b_M_give 26 = .ok (.iconst (-1), 1) := by decide +kernel
theorem d_M_give_27 : decode b_M_give 27 = .ok (.if_icmp .eq 12, 3) := by decide +kernel
theorem d_M_give_30 : decode b_M_give 30 = .ok (.aload_n 0, 1) := by decide +kernel
theorem d_M_give_31 : decode b_M_give 31 = .ok (.iload_n 2, 1) := by decide +kernel
theorem d_M_give_32 : decode b_M_give 32 = .ok (.invokevirtual 104, 3) := by decide +kernel
theorem d_M_give_35 : decode b_M_give 35 = .ok (.iload_n 1, 1) := by decide +kernel
theorem d_M_give_36 : decode b_M_give 36 = .ok (.if_icmp .eq 7, 3) := by decide +kernel
theorem d_M_give_39 : decode b_M_give 39 = .ok (.iconst 1, 1) := by decide +kernel
theorem d_M_give_40 : decode b_M_give 40 = .ok (.goto 4, 3) := by decide +kernel
theorem d_M_give_43 : decode b_M_give 43 = .ok (.iconst 0, 1) := by decide +kernel
theorem d_M_give_44 : decode b_M_give 44 = .ok (.invokevirtual 61, 3) := by decide +kernel
theorem d_M_give_47 : decode b_M_give 47 = .ok (.ifCond .eq 5, 3) := by decide +kernel
theorem d_M_give_50 : decode b_M_give 50 = .ok (.iconst 0, 1) := by decide +kernel
theorem d_M_give_51 : decode b_M_give 51 = .ok (.ireturn, 1) := by decide +kernel
theorem d_M_give_52 : decode b_M_give 52 = .ok (.aload_n 0, 1) := by decide +kernel
theorem d_M_give_53 : decode b_M_give 53 = .ok (.getfield 34, 3) := by decide +kernel
theorem d_M_give_56 : decode b_M_give 56 = .ok (.iload_n 1, 1) := by decide +kernel
theorem d_M_give_57 : decode b_M_give 57 = .ok (.iconst (-1), 1) := by decide +kernel
theorem d_M_give_58 : decode b_M_give 58 = .ok (.iastore, 1) := by decide +kernel
theorem d_M_give_59 : decode b_M_give 59 = .ok (.aload_n 0, 1) := by decide +kernel
theorem d_M_give_60 : decode b_M_give 60 = .ok (.getfield 22, 3) := by decide +kernel
theorem d_M_give_63 : decode b_M_give 63 = .ok (.iload_n 2, 1) := by decide +kernel
theorem d_M_give_64 : decode b_M_give 64 = .ok (.aload_n 0, 1) := by decide +kernel
theorem d_M_give_65 : decode b_M_give 65 = .ok (.getfield 37, 3) := by decide +kernel
theorem d_M_give_68 : decode b_M_give 68 = .ok (.iload_n 1, 1) := by decide +kernel
theorem d_M_give_69 : decode b_M_give 69 = .ok (.iaload, 1) := by decide +kernel
theorem d_M_give_70 : decode b_M_give 70 = .ok (.iastore, 1) := by decide +kernel
theorem d_M_give_71 : decode b_M_give 71 = .ok (.aload_n 0, 1) := by decide +kernel
theorem d_M_give_72 : decode b_M_give 72 = .ok (.iconst 3, 1) := by decide +kernel
theorem d_M_give_73 : decode b_M_give 73 = .ok (.iload_n 2, 1) := by decide +kernel
theorem d_M_give_74 : decode b_M_give 74 = .ok (.iload_n 1, 1) := by decide +kernel
theorem d_M_give_75 : decode b_M_give 75 = .ok (.iload_n 2, 1) := by decide +kernel
theorem d_M_give_76 : decode b_M_give 76 = .ok (.invokevirtual 93, 3) := by decide +kernel
theorem d_M_give_79 : decode b_M_give 79 = .ok (.aload_n 0, 1) := by decide +kernel
theorem d_M_give_80 : decode b_M_give 80 = .ok (.getfield 22, 3) := by decide +kernel
theorem d_M_give_83 : decode b_M_give 83 = .ok (.iload_n 2, 1) := by decide +kernel
theorem d_M_give_84 : decode b_M_give 84 = .ok (.iaload, 1) := by decide +kernel
theorem d_M_give_85 : decode b_M_give 85 = .ok (.ireturn, 1) := by decide +kernel
theorem d_M_finish_0 : decode b_M_finish 0 = .ok (.aload_n 0, 1) := by decide +kernel
theorem d_M_finish_1 : decode b_M_finish 1 = .ok (.invokevirtual 83, 3) := by decide +kernel
theorem d_M_finish_4 : decode b_M_finish 4 = .ok (.istore_n 1, 1) := by decide +kernel
theorem d_M_finish_5 : decode b_M_finish 5 = .ok (.aload_n 0, 1) := by decide +kernel
theorem d_M_finish_6 : decode b_M_finish 6 = .ok (.iload_n 1, 1) := by decide +kernel
theorem d_M_finish_7 : decode b_M_finish 7 = .ok (.iconst (-1), 1) := by decide +kernel
theorem d_M_finish_8 : decode b_M_finish 8 = .ok (.if_icmp .eq 12, 3) := by decide +kernel
theorem d_M_finish_11 : decode b_M_finish 11 = .ok (.aload_n 0, 1) := by decide +kernel
theorem d_M_finish_12 : decode b_M_finish 12 = .ok (.iload_n 1, 1) := by decide +kernel
theorem d_M_finish_13 : decode b_M_finish 13 = .ok (.invokevirtual 104, 3) := by decide +kernel
theorem d_M_finish_16 : decode b_M_finish 16 = .ok (.iconst (-1), 1) := by decide +kernel
theorem d_M_finish_17 : decode b_M_finish 17 = .ok (.if_icmp .eq 7, 3) := by decide +kernel
theorem d_M_finish_20 : decode b_M_finish 20 = .ok (.iconst 1, 1) := by decide +kernel
theorem d_M_finish_21 : decode b_M_finish 21 = .ok (.goto 4, 3) := by decide +kernel
theorem d_M_finish_24 : decode b_M_finish 24 = .ok (.iconst 0, 1) := by decide +kernel
theorem d_M_finish_25 : decode b_M_finish 25 = .ok (.iconst 0, 1) := by decide +kernel
theorem d_M_finish_26 : decode b_M_finish 26 = .ok (.invokevirtual 61, 3) := by decide +kernel
theorem d_M_finish_29 : decode b_M_finish 29 = .ok (.ifCond .eq 5, 3) := by decide +kernel
theorem d_M_finish_32 : decode b_M_finish 32 = .ok (.iconst 0, 1) := by decide +kernel
theorem d_M_finish_33 : decode b_M_finish 33 = .ok (.ireturn, 1) := by decide +kernel
theorem d_M_finish_34 : decode b_M_finish 34 = .ok (.aload_n 0, 1) := by decide +kernel
theorem d_M_finish_35 : decode b_M_finish 35 = .ok (.getfield 19, 3) := by decide +kernel
theorem d_M_finish_38 : decode b_M_finish 38 = .ok (.iload_n 1, 1) := by decide +kernel
theorem d_M_finish_39 : decode b_M_finish 39 = .ok (.iconst 0, 1) := by decide +kernel
theorem d_M_finish_40 : decode b_M_finish 40 = .ok (.iastore, 1) := by decide +kernel
theorem d_M_finish_41 : decode b_M_finish 41 = .ok (.aload_n 0, 1) := by decide +kernel
theorem d_M_finish_42 : decode b_M_finish 42 = .ok (.getfield 22, 3) := by decide +kernel
theorem d_M_finish_45 : decode b_M_finish 45 = .ok (.iload_n 1, 1) := by decide +kernel
theorem d_M_finish_46 : decode b_M_finish 46 = .ok (.aload_n 0, 1) := by decide +kernel
theorem d_M_finish_47 : decode b_M_finish 47 = .ok (.getfield 7, 3) := by decide +kernel
theorem d_M_finish_50 : decode b_M_finish 50 = .ok (.iload_n 1, 1) := by decide +kernel
theorem d_M_finish_51 : decode b_M_finish 51 = .ok (.iaload, 1) := by decide +kernel
theorem d_M_finish_52 : decode b_M_finish 52 = .ok (.iastore, 1) := by decide +kernel
theorem d_M_finish_53 : decode b_M_finish 53 = .ok (.aload_n 0, 1) := by decide +kernel
theorem d_M_finish_54 : decode b_M_finish 54 = .ok (.iconst 4, 1) := by decide +kernel
theorem d_M_finish_55 : decode b_M_finish 55 = .ok (.iload_n 1, 1) := by decide +kernel
theorem d_M_finish_56 : decode b_M_finish 56 = .ok (.bipush 15, 2) := by decide +kernel
theorem d_M_finish_58 : decode b_M_finish 58 = .ok (.iload_n 1, 1) := by decide +kernel
theorem d_M_finish_59 : decode b_M_finish 59 = .ok (.invokevirtual 93, 3) := by decide +kernel
theorem d_M_finish_62 : decode b_M_finish 62 = .ok (.aload_n 0, 1) := by decide +kernel
theorem d_M_finish_63 : decode b_M_finish 63 = .ok (.getfield 25, 3) := by decide +kernel
theorem d_M_finish_66 : decode b_M_finish 66 = .ok (.iload_n 1, 1) := by decide +kernel
theorem d_M_finish_67 : decode b_M_finish 67 = .ok (.iaload, 1) := by decide +kernel
theorem d_M_finish_68 : decode b_M_finish 68 = .ok (.ireturn, 1) := by decide +kernel
theorem d_M_pass_0 : decode b_M_pass 0 = .ok (.aload_n 0, 1) := by decide +kernel
theorem d_M_pass_1 : decode b_M_pass 1 = .ok (.iload_n 1, 1) := by decide +kernel
theorem d_M_pass_2 : decode b_M_pass 2 = .ok (.ifCond .lt 9, 3) := by decide +kernel
theorem d_M_pass_5 : decode b_M_pass 5 = .ok (.iload_n 1, 1) := by decide +kernel
theorem d_M_pass_6 : decode b_M_pass 6 = .ok (.bipush 100, 2) := by decide +kernel
theorem d_M_pass_8 : decode b_M_pass 8 = .ok (.if_icmp .le 7, 3) := by decide +kernel
theorem d_M_pass_11 : decode b_M_pass 11 = .ok (.iconst 1, 1) := by decide +kernel
theorem d_M_pass_12 : decode b_M_pass 12 = .ok (.goto 4, 3) := by decide +kernel
theorem d_M_pass_15 : decode b_M_pass 15 = .ok (.iconst 0, 1) := by decide +kernel
theorem d_M_pass_16 : decode b_M_pass 16 = .ok (.iconst 0, 1) := by decide +kernel
theorem d_M_pass_17 : decode b_M_pass 17 = .ok (.invokevirtual 61, 3) := by decide +kernel
theorem d_M_pass_20 : decode b_M_pass 20 = .ok (.ifCond .eq 5, 3) := by decide +kernel
theorem d_M_pass_23 : decode b_M_pass 23 = .ok (.iconst 0, 1) := by decide +kernel
theorem d_M_pass_24 : decode b_M_pass 24 = .ok (.ireturn, 1) := by decide +kernel
theorem d_M_pass_25 : decode b_M_pass 25 = .ok (.aload_n 0, 1) := by decide +kernel
theorem d_M_pass_26 : decode b_M_pass 26 = .ok (.invokevirtual 83, 3) := by decide +kernel
theorem d_M_pass_29 : decode b_M_pass 29 = .ok (.istore_n 2, 1) := by decide +kernel
theorem d_M_pass_30 : decode b_M_pass 30 = .ok (.aload_n 0, 1) := by decide +kernel
theorem d_M_pass_31 : decode b_M_pass 31 = .ok (.dup, 1) := by decide +kernel
theorem d_M_pass_32 : decode b_M_pass 32 = .ok (.getfield 75, 3) := by decide +kernel
theorem d_M_pass_35 : decode b_M_pass 35 = .ok (.iload_n 1, 1) := by decide +kernel
theorem d_M_pass_36 : decode b_M_pass 36 = .ok (.iadd, 1) := by decide +kernel
theorem d_M_pass_37 : decode b_M_pass 37 = .ok (.putfield 75, 3) := by decide +kernel
theorem d_M_pass_40 : decode b_M_pass 40 = .ok (.iconst 0, 1) := by decide +kernel
theorem d_M_pass_41 : decode b_M_pass 41 = .ok (.istore_n 3, 1) := by decide +kernel
theorem d_M_pass_42 : decode b_M_pass 42 = .ok (.iload_n 3, 1) := by decide +kernel
theorem d_M_pass_43 : decode b_M_pass 43 = .ok (.bipush 8, 2) := by decide +kernel
theorem d_M_pass_45 : decode b_M_pass 45 = .ok (.if_icmp .ge 71, 3) := by decide +kernel
theorem d_M_pass_48 : decode b_M_pass 48 = .ok (.iload_n 2, 1) := by decide +kernel
theorem d_M_pass_49 : decode b_M_pass 49 = .ok (.iconst (-1), 1) := by decide +kernel
theorem d_M_pass_50 : decode b_M_pass 50 = .ok (.if_icmp .eq 66, 3) := by decide +kernel
theorem d_M_pass_53 : decode b_M_pass 53 = .ok (.aload_n 0, 1) := by decide +kernel
theorem d_M_pass_54 : decode b_M_pass 54 = .ok (.getfield 25, 3) := by decide +kernel
theorem d_M_pass_57 : decode b_M_pass 57 = .ok (.iload_n 3, 1) := by decide +kernel
theorem d_M_pass_58 : decode b_M_pass 58 = .ok (.dup2, 1) := by decide +kernel
theorem d_M_pass_59 : decode b_M_pass 59 = .ok (.iaload, 1) := by decide +kernel
theorem d_M_pass_60 : decode b_M_pass 60 = .ok (.iload_n 3, 1) := by decide +kernel
theorem d_M_pass_61 : decode b_M_pass 61 = .ok (.iload_n 2, 1) := by decide +kernel
theorem d_M_pass_62 : decode b_M_pass 62 = .ok (.if_icmp .ne 7, 3) := by decide +kernel
theorem d_M_pass_65 : decode b_M_pass 65 = .ok (.iload_n 1, 1) := by decide +kernel
theorem d_M_pass_66 : decode b_M_pass 66 = .ok (.goto 4, 3) := by decide +kernel
theorem d_M_pass_69 : decode b_M_pass 69 = .ok (.iconst 0, 1) := by decide +kernel
theorem d_M_pass_70 : decode b_M_pass 70 = .ok (.iadd, 1) := by decide +kernel
theorem d_M_pass_71 : decode b_M_pass 71 = .ok (.iastore, 1) := by decide +kernel
theorem d_M_pass_72 : decode b_M_pass 72 = .ok (.aload_n 0, 1) := by decide +kernel
theorem d_M_pass_73 : decode b_M_pass 73 = .ok (.getfield 28, 3) := by decide +kernel
theorem d_M_pass_76 : decode b_M_pass 76 = .ok (.iload_n 3, 1) := by decide +kernel
theorem d_M_pass_77 : decode b_M_pass 77 = .ok (.dup2, 1) := by decide +kernel
theorem d_M_pass_78 : decode b_M_pass 78 = .ok (.iaload, 1) := by decide +kernel
theorem d_M_pass_79 : decode b_M_pass 79 = .ok (.aload_n 0, 1) := by decide +kernel
theorem d_M_pass_80 : decode b_M_pass 80 = .ok (.getfield 19, 3) := by decide +kernel
theorem d_M_pass_83 : decode b_M_pass 83 = .ok (.iload_n 3, 1) := by decide +kernel
theorem d_M_pass_84 : decode b_M_pass 84 = .ok (.iaload, 1) := by decide +kernel
theorem d_M_pass_85 : decode b_M_pass 85 = .ok (.ifCond .le 22, 3) := by decide +kernel
theorem d_M_pass_88 : decode b_M_pass 88 = .ok (.aload_n 0, 1) := by decide +kernel
theorem d_M_pass_89 : decode b_M_pass 89 = .ok (.getfield 7, 3) := by decide +kernel
theorem d_M_pass_92 : decode b_M_pass 92 = .ok (.iload_n 3, 1) := by decide +kernel
theorem d_M_pass_93 : decode b_M_pass 93 = .ok (.iaload, 1) := by decide +kernel
theorem d_M_pass_94 : decode b_M_pass 94 = .ok (.aload_n 0, 1) := by decide +kernel
theorem d_M_pass_95 : decode b_M_pass 95 = .ok (.getfield 7, 3) := by decide +kernel
theorem d_M_pass_98 : decode b_M_pass 98 = .ok (.iload_n 2, 1) := by decide +kernel
theorem d_M_pass_99 : decode b_M_pass 99 = .ok (.iaload, 1) := by decide +kernel
theorem d_M_pass_100 : decode b_M_pass 100 = .ok (.if_icmp .le 7, 3) := by decide +kernel
theorem d_M_pass_103 : decode b_M_pass 103 = .ok (.iload_n 1, 1) := by decide +kernel
theorem d_M_pass_104 : decode b_M_pass 104 = .ok (.goto 4, 3) := by decide +kernel
theorem d_M_pass_107 : decode b_M_pass 107 = .ok (.iconst 0, 1) := by decide +kernel
theorem d_M_pass_108 : decode b_M_pass 108 = .ok (.iadd, 1) := by decide +kernel
theorem d_M_pass_109 : decode b_M_pass 109 = .ok (.iastore, 1) := by decide +kernel
theorem d_M_pass_110 : decode b_M_pass 110 = .ok (.iinc 3 1, 3) := by decide +kernel
theorem d_M_pass_113 : decode b_M_pass 113 = .ok (.goto (-71), 3) := by decide +kernel
theorem d_M_pass_116 : decode b_M_pass 116 = .ok (.aload_n 0, 1) := by decide +kernel
theorem d_M_pass_117 : decode b_M_pass 117 = .ok (.getfield 75, 3) := by decide +kernel
theorem d_M_pass_120 : decode b_M_pass 120 = .ok (.ireturn, 1) := by decide +kernel
theorem d_M_running_0 : decode b_M_running 0 = .ok (.aload_n 0, 1) := by decide +kernel
theorem d_M_running_1 : decode b_M_running 1 = .ok (.iconst 0, 1) := by decide +kernel
theorem d_M_running_2 : decode b_M_running 2 = .ok (.putfield 46, 3) := by decide +kernel
theorem d_M_running_5 : decode b_M_running 5 = .ok (.aload_n 0, 1) := by decide +kernel
theorem d_M_running_6 : decode b_M_running 6 = .ok (.invokevirtual 83, 3) := by decide +kernel
theorem d_M_running_9 : decode b_M_running 9 = .ok (.ireturn, 1) := by decide +kernel
theorem d_M_priority_0 : decode b_M_priority 0 = .ok (.aload_n 0, 1) := by decide +kernel
theorem d_M_priority_1 : decode b_M_priority 1 = .ok (.iconst 0, 1) := by decide +kernel
theorem d_M_priority_2 : decode b_M_priority 2 = .ok (.putfield 46, 3) := by decide +kernel
theorem d_M_priority_5 : decode b_M_priority 5 = .ok (.aload_n 0, 1) := by decide +kernel
theorem d_M_priority_6 : decode b_M_priority 6 = .ok (.iload_n 1, 1) := by decide +kernel
theorem d_M_priority_7 : decode b_M_priority 7 = .ok (.invokevirtual 58, 3) := by decide +kernel
theorem d_M_priority_10 : decode b_M_priority 10 = .ok (.ifCond .eq 12, 3) := by decide +kernel
theorem d_M_priority_13 : decode b_M_priority 13 = .ok (.aload_n 0, 1) := by decide +kernel
theorem d_M_priority_14 : decode b_M_priority 14 = .ok (.getfield 22, 3) := by decide +kernel
theorem d_M_priority_17 : decode b_M_priority 17 = .ok (.iload_n 1, 1) := by decide +kernel
theorem d_M_priority_18 : decode b_M_priority 18 = .ok (.iaload, 1) := by decide +kernel
theorem d_M_priority_19 : decode b_M_priority 19 = .ok (.goto 4, 3) := by decide +kernel
theorem d_M_priority_22 : decode b_M_priority 22 = .ok (.iconst (-1), 1) := by decide +kernel
theorem d_M_priority_23 : decode b_M_priority 23 = .ok (.ireturn, 1) := by decide +kernel
theorem d_M_place_0 : decode b_M_place 0 = .ok (.aload_n 0, 1) := by decide +kernel
theorem d_M_place_1 : decode b_M_place 1 = .ok (.iconst 0, 1) := by decide +kernel
theorem d_M_place_2 : decode b_M_place 2 = .ok (.putfield 46, 3) := by decide +kernel
theorem d_M_place_5 : decode b_M_place 5 = .ok (.aload_n 0, 1) := by decide +kernel
theorem d_M_place_6 : decode b_M_place 6 = .ok (.iload_n 1, 1) := by decide +kernel
theorem d_M_place_7 : decode b_M_place 7 = .ok (.invokevirtual 87, 3) := by decide +kernel
theorem d_M_place_10 : decode b_M_place 10 = .ok (.ifCond .ne 5, 3) := by decide +kernel
theorem d_M_place_13 : decode b_M_place 13 = .ok (.iconst (-1), 1) := by decide +kernel
theorem d_M_place_14 : decode b_M_place 14 = .ok (.ireturn, 1) := by decide +kernel
theorem d_M_place_15 : decode b_M_place 15 = .ok (.iconst 0, 1) := by decide +kernel
theorem d_M_place_16 : decode b_M_place 16 = .ok (.istore_n 2, 1) := by decide +kernel
theorem d_M_place_17 : decode b_M_place 17 = .ok (.iconst 0, 1) := by decide +kernel
theorem d_M_place_18 : decode b_M_place 18 = .ok (.istore_n 3, 1) := by decide +kernel
theorem d_M_place_19 : decode b_M_place 19 = .ok (.iload_n 3, 1) := by decide +kernel
theorem d_M_place_20 : decode b_M_place 20 = .ok (.bipush 8, 2) := by decide +kernel
theorem d_M_place_22 : decode b_M_place 22 = .ok (.if_icmp .ge 40, 3) := by decide +kernel
theorem d_M_place_25 : decode b_M_place 25 = .ok (.iload_n 2, 1) := by decide +kernel
theorem d_M_place_26 : decode b_M_place 26 = .ok (.aload_n 0, 1) := by decide +kernel
theorem d_M_place_27 : decode b_M_place 27 = .ok (.getfield 19, 3) := by decide +kernel
theorem d_M_place_30 : decode b_M_place 30 = .ok (.iload_n 3, 1) := by decide +kernel
theorem d_M_place_31 : decode b_M_place 31 = .ok (.iaload, 1) := by decide +kernel
theorem d_M_place_32 : decode b_M_place 32 = .ok (.ifCond .le 21, 3) := by decide +kernel
theorem d_M_place_35 : decode b_M_place 35 = .ok (.iload_n 3, 1) := by decide +kernel
theorem d_M_place_36 : decode b_M_place 36 = .ok (.iload_n 1, 1) := by decide +kernel
theorem d_M_place_37 : decode b_M_place 37 = .ok (.if_icmp .eq 16, 3) := by decide +kernel
theorem d_M_place_40 : decode b_M_place 40 = .ok (.aload_n 0, 1) := by decide +kernel
theorem d_M_place_41 : decode b_M_place 41 = .ok (.iload_n 3, 1) := by decide +kernel
theorem d_M_place_42 : decode b_M_place 42 = .ok (.iload_n 1, 1) := by decide +kernel
theorem d_M_place_43 : decode b_M_place 43 = .ok (.invokevirtual 68, 3) := by decide +kernel
theorem d_M_place_46 : decode b_M_place 46 = .ok (.ifCond .eq 7, 3) := by decide +kernel
theorem d_M_place_49 : decode b_M_place 49 = .ok (.iconst 1, 1) := by decide +kernel
theorem d_M_place_50 : decode b_M_place 50 = .ok (.goto 4, 3) := by decide +kernel
theorem d_M_place_53 : decode b_M_place 53 = .ok (.iconst 0, 1) := by decide +kernel
theorem d_M_place_54 : decode b_M_place 54 = .ok (.iadd, 1) := by decide +kernel
theorem d_M_place_55 : decode b_M_place 55 = .ok (.istore_n 2, 1) := by decide +kernel
theorem d_M_place_56 : decode b_M_place 56 = .ok (.iinc 3 1, 3) := by decide +kernel
theorem d_M_place_59 : decode b_M_place 59 = .ok (.goto (-40), 3) := by decide +kernel
theorem d_M_place_62 : decode b_M_place 62 = .ok (.iload_n 2, 1) := by decide +kernel
theorem d_M_place_63 : decode b_M_place 63 = .ok (.ireturn, 1) := by decide +kernel
theorem d_M_ceiling_0 : decode b_M_ceiling 0 = .ok (.aload_n 0, 1) := by decide +kernel
theorem d_M_ceiling_1 : decode b_M_ceiling 1 = .ok (.iconst 0, 1) := by decide +kernel
theorem d_M_ceiling_2 : decode b_M_ceiling 2 = .ok (.putfield 46, 3) := by decide +kernel
theorem d_M_ceiling_5 : decode b_M_ceiling 5 = .ok (.aload_n 0, 1) := by decide +kernel
theorem d_M_ceiling_6 : decode b_M_ceiling 6 = .ok (.getfield 54, 3) := by decide +kernel
theorem d_M_ceiling_9 : decode b_M_ceiling 9 = .ok (.ifCond .eq 18, 3) := by decide +kernel
theorem d_M_ceiling_12 : decode b_M_ceiling 12 = .ok (.iload_n 1, 1) := by decide +kernel
theorem d_M_ceiling_13 : decode b_M_ceiling 13 = .ok (.invokestatic 65, 3) := by decide +kernel
theorem d_M_ceiling_16 : decode b_M_ceiling 16 = .ok (.ifCond .eq 11, 3) := by decide +kernel
theorem d_M_ceiling_19 : decode b_M_ceiling 19 = .ok (.aload_n 0, 1) := by decide +kernel
theorem d_M_ceiling_20 : decode b_M_ceiling 20 = .ok (.iload_n 1, 1) := by decide +kernel
theorem d_M_ceiling_21 : decode b_M_ceiling 21 = .ok (.invokevirtual 100, 3) := by decide +kernel
theorem d_M_ceiling_24 : decode b_M_ceiling 24 = .ok (.goto 4, 3) := by decide +kernel
theorem d_M_ceiling_27 : decode b_M_ceiling 27 = .ok (.iconst (-1), 1) := by decide +kernel
theorem d_M_ceiling_28 : decode b_M_ceiling 28 = .ok (.ireturn, 1) := by decide +kernel
theorem d_M_holder_0 : decode b_M_holder 0 = .ok (.aload_n 0, 1) := by decide +kernel
theorem d_M_holder_1 : decode b_M_holder 1 = .ok (.iconst 0, 1) := by decide +kernel
theorem d_M_holder_2 : decode b_M_holder 2 = .ok (.putfield 46, 3) := by decide +kernel
theorem d_M_holder_5 : decode b_M_holder 5 = .ok (.iload_n 1, 1) := by decide +kernel
theorem d_M_holder_6 : decode b_M_holder 6 = .ok (.invokestatic 65, 3) := by decide +kernel
theorem d_M_holder_9 : decode b_M_holder 9 = .ok (.ifCond .eq 12, 3) := by decide +kernel
theorem d_M_holder_12 : decode b_M_holder 12 = .ok (.aload_n 0, 1) := by decide +kernel
theorem d_M_holder_13 : decode b_M_holder 13 = .ok (.getfield 34, 3) := by decide +kernel
theorem d_M_holder_16 : decode b_M_holder 16 = .ok (.iload_n 1, 1) := by decide +kernel
theorem d_M_holder_17 : decode b_M_holder 17 = .ok (.iaload, 1) := by decide +kernel
theorem d_M_holder_18 : decode b_M_holder 18 = .ok (.goto 4, 3) := by decide +kernel
theorem d_M_holder_21 : decode b_M_holder 21 = .ok (.iconst (-1), 1) := by decide +kernel
theorem d_M_holder_22 : decode b_M_holder 22 = .ok (.ireturn, 1) := by decide +kernel
theorem d_M_spent_0 : decode b_M_spent 0 = .ok (.aload_n 0, 1) := by decide +kernel
theorem d_M_spent_1 : decode b_M_spent 1 = .ok (.iconst 0, 1) := by decide +kernel
theorem d_M_spent_2 : decode b_M_spent 2 = .ok (.putfield 46, 3) := by decide +kernel
theorem d_M_spent_5 : decode b_M_spent 5 = .ok (.aload_n 0, 1) := by decide +kernel
theorem d_M_spent_6 : decode b_M_spent 6 = .ok (.iload_n 1, 1) := by decide +kernel
theorem d_M_spent_7 : decode b_M_spent 7 = .ok (.invokevirtual 58, 3) := by decide +kernel
theorem d_M_spent_10 : decode b_M_spent 10 = .ok (.ifCond .ne 5, 3) := by decide +kernel
theorem d_M_spent_13 : decode b_M_spent 13 = .ok (.iconst 0, 1) := by decide +kernel
theorem d_M_spent_14 : decode b_M_spent 14 = .ok (.ireturn, 1) := by decide +kernel
theorem d_M_spent_15 : decode b_M_spent 15 = .ok (.iload_n 2, 1) := by decide +kernel
theorem d_M_spent_16 : decode b_M_spent 16 = .ok (.ifCond .ne 12, 3) := by decide +kernel
theorem d_M_spent_19 : decode b_M_spent 19 = .ok (.aload_n 0, 1) := by decide +kernel
theorem d_M_spent_20 : decode b_M_spent 20 = .ok (.getfield 25, 3) := by decide +kernel
theorem d_M_spent_23 : decode b_M_spent 23 = .ok (.iload_n 1, 1) := by decide +kernel
theorem d_M_spent_24 : decode b_M_spent 24 = .ok (.iaload, 1) := by decide +kernel
theorem d_M_spent_25 : decode b_M_spent 25 = .ok (.goto 18, 3) := by decide +kernel
theorem d_M_spent_28 : decode b_M_spent 28 = .ok (.iload_n 2, 1) := by decide +kernel
theorem d_M_spent_29 : decode b_M_spent 29 = .ok (.iconst 1, 1) := by decide +kernel
theorem d_M_spent_30 : decode b_M_spent 30 = .ok (.if_icmp .ne 12, 3) := by decide +kernel
theorem d_M_spent_33 : decode b_M_spent 33 = .ok (.aload_n 0, 1) := by decide +kernel
theorem d_M_spent_34 : decode b_M_spent 34 = .ok (.getfield 28, 3) := by decide +kernel
theorem d_M_spent_37 : decode b_M_spent 37 = .ok (.iload_n 1, 1) := by decide +kernel
theorem d_M_spent_38 : decode b_M_spent 38 = .ok (.iaload, 1) := by decide +kernel
theorem d_M_spent_39 : decode b_M_spent 39 = .ok (.goto 4, 3) := by decide +kernel
theorem d_M_spent_42 : decode b_M_spent 42 = .ok (.iconst 0, 1) := by decide +kernel
theorem d_M_spent_43 : decode b_M_spent 43 = .ok (.ireturn, 1) := by decide +kernel
theorem d_M_longest_0 : decode b_M_longest 0 = .ok (.iconst 0, 1) := by decide +kernel
theorem d_M_longest_1 : decode b_M_longest 1 = .ok (.istore_n 2, 1) := by decide +kernel
theorem d_M_longest_2 : decode b_M_longest 2 = .ok (.iconst 0, 1) := by decide +kernel
theorem d_M_longest_3 : decode b_M_longest 3 = .ok (.istore_n 3, 1) := by decide +kernel
theorem d_M_longest_4 : decode b_M_longest 4 = .ok (.iload_n 3, 1) := by decide +kernel
theorem d_M_longest_5 : decode b_M_longest 5 = .ok (.bipush 48, 2) := by decide +kernel
theorem d_M_longest_7 : decode b_M_longest 7 = .ok (.if_icmp .ge 86, 3) := by decide +kernel
theorem d_M_longest_10 : decode b_M_longest 10 = .ok (.aload_n 0, 1) := by decide +kernel
theorem d_M_longest_11 : decode b_M_longest 11 = .ok (.getfield 7, 3) := by decide +kernel
theorem d_M_longest_14 : decode b_M_longest 14 = .ok (.iload_n 3, 1) := by decide +kernel
theorem d_M_longest_15 : decode b_M_longest 15 = .ok (.bipush 6, 2) := by decide +kernel
theorem d_M_longest_17 : decode b_M_longest 17 = .ok (.idiv, 1) := by decide +kernel
theorem d_M_longest_18 : decode b_M_longest 18 = .ok (.iaload, 1) := by decide +kernel
theorem d_M_longest_19 : decode b_M_longest 19 = .ok (.aload_n 0, 1) := by decide +kernel
theorem d_M_longest_20 : decode b_M_longest 20 = .ok (.getfield 7, 3) := by decide +kernel
theorem d_M_longest_23 : decode b_M_longest 23 = .ok (.iload_n 1, 1) := by decide +kernel
theorem d_M_longest_24 : decode b_M_longest 24 = .ok (.iaload, 1) := by decide +kernel
theorem d_M_longest_25 : decode b_M_longest 25 = .ok (.if_icmp .ge 33, 3) := by decide +kernel
theorem d_M_longest_28 : decode b_M_longest 28 = .ok (.aload_n 0, 1) := by decide +kernel
theorem d_M_longest_29 : decode b_M_longest 29 = .ok (.getfield 31, 3) := by decide +kernel
theorem d_M_longest_32 : decode b_M_longest 32 = .ok (.iload_n 3, 1) := by decide +kernel
theorem d_M_longest_33 : decode b_M_longest 33 = .ok (.iaload, 1) := by decide +kernel
theorem d_M_longest_34 : decode b_M_longest 34 = .ok (.ifCond .le 24, 3) := by decide +kernel
theorem d_M_longest_37 : decode b_M_longest 37 = .ok (.aload_n 0, 1) := by decide +kernel
theorem d_M_longest_38 : decode b_M_longest 38 = .ok (.iload_n 3, 1) := by decide +kernel
theorem d_M_longest_39 : decode b_M_longest 39 = .ok (.bipush 6, 2) := by decide +kernel
theorem d_M_longest_41 : decode b_M_longest 41 = .ok (.irem, 1) := by decide +kernel
theorem d_M_longest_42 : decode b_M_longest 42 = .ok (.invokevirtual 100, 3) := by decide +kernel
theorem d_M_longest_45 : decode b_M_longest 45 = .ok (.aload_n 0, 1) := by decide +kernel
theorem d_M_longest_46 : decode b_M_longest 46 = .ok (.getfield 7, 3) := by decide +kernel
theorem d_M_longest_49 : decode b_M_longest 49 = .ok (.iload_n 1, 1) := by decide +kernel
theorem d_M_longest_50 : decode b_M_longest 50 = .ok (.iaload, 1) := by decide +kernel
theorem d_M_longest_51 : decode b_M_longest 51 = .ok (.if_icmp .lt 7, 3) := by decide +kernel
theorem d_M_longest_54 : decode b_M_longest 54 = .ok (.iconst 1, 1) := by decide +kernel
theorem d_M_longest_55 : decode b_M_longest 55 = .ok (.goto 4, 3) := by decide +kernel
theorem d_M_longest_58 : decode b_M_longest 58 = .ok (.iconst 0, 1) := by decide +kernel
theorem d_M_longest_59 : decode b_M_longest 59 = .ok (.istore 4, 2) := by decide +kernel
theorem d_M_longest_61 : decode b_M_longest 61 = .ok (.iload 4, 2) := by decide +kernel
theorem d_M_longest_63 : decode b_M_longest 63 = .ok (.ifCond .eq 22, 3) := by decide +kernel
theorem d_M_longest_66 : decode b_M_longest 66 = .ok (.aload_n 0, 1) := by decide +kernel
theorem d_M_longest_67 : decode b_M_longest 67 = .ok (.getfield 31, 3) := by decide +kernel
theorem d_M_longest_70 : decode b_M_longest 70 = .ok (.iload_n 3, 1) := by decide +kernel
theorem d_M_longest_71 : decode b_M_longest 71 = .ok (.iaload, 1) := by decide +kernel
theorem d_M_longest_72 : decode b_M_longest 72 = .ok (.iload_n 2, 1) := by decide +kernel
theorem d_M_longest_73 : decode b_M_longest 73 = .ok (.if_icmp .le 12, 3) := by decide +kernel
theorem d_M_longest_76 : decode b_M_longest 76 = .ok (.aload_n 0, 1) := by decide +kernel
theorem d_M_longest_77 : decode b_M_longest 77 = .ok (.getfield 31, 3) := by decide +kernel
theorem d_M_longest_80 : decode b_M_longest 80 = .ok (.iload_n 3, 1) := by decide +kernel
theorem d_M_longest_81 : decode b_M_longest 81 = .ok (.iaload, 1) := by decide +kernel
theorem d_M_longest_82 : decode b_M_longest 82 = .ok (.goto 4, 3) := by decide +kernel
theorem d_M_longest_85 : decode b_M_longest 85 = .ok (.iload_n 2, 1) := by decide +kernel
theorem d_M_longest_86 : decode b_M_longest 86 = .ok (.istore_n 2, 1) := by decide +kernel
theorem d_M_longest_87 : decode b_M_longest 87 = .ok (.iinc 3 1, 3) := by decide +kernel
theorem d_M_longest_90 : decode b_M_longest 90 = .ok (.goto (-86), 3) := by decide +kernel
theorem d_M_longest_93 : decode b_M_longest 93 = .ok (.iload_n 2, 1) := by decide +kernel
theorem d_M_longest_94 : decode b_M_longest 94 = .ok (.ireturn, 1) := by decide +kernel
theorem d_M_blocking_0 : decode b_M_blocking 0 = .ok (.aload_n 0, 1) := by decide +kernel
theorem d_M_blocking_1 : decode b_M_blocking 1 = .ok (.iconst 0, 1) := by decide +kernel
theorem d_M_blocking_2 : decode b_M_blocking 2 = .ok (.putfield 46, 3) := by decide +kernel
theorem d_M_blocking_5 : decode b_M_blocking 5 = .ok (.aload_n 0, 1) := by decide +kernel
theorem d_M_blocking_6 : decode b_M_blocking 6 = .ok (.getfield 54, 3) := by decide +kernel
theorem d_M_blocking_9 : decode b_M_blocking 9 = .ok (.ifCond .eq 19, 3) := by decide +kernel
theorem d_M_blocking_12 : decode b_M_blocking 12 = .ok (.aload_n 0, 1) := by decide +kernel
theorem d_M_blocking_13 : decode b_M_blocking 13 = .ok (.iload_n 1, 1) := by decide +kernel
theorem d_M_blocking_14 : decode b_M_blocking 14 = .ok (.invokevirtual 58, 3) := by decide +kernel
theorem d_M_blocking_17 : decode b_M_blocking 17 = .ok (.ifCond .eq 11, 3) := by decide +kernel
theorem d_M_blocking_20 : decode b_M_blocking 20 = .ok (.aload_n 0, 1) := by decide +kernel
theorem d_M_blocking_21 : decode b_M_blocking 21 = .ok (.iload_n 1, 1) := by decide +kernel
theorem d_M_blocking_22 : decode b_M_blocking 22 = .ok (.invokevirtual 107, 3) := by decide +kernel
theorem d_M_blocking_25 : decode b_M_blocking 25 = .ok (.goto 4, 3) := by decide +kernel
theorem d_M_blocking_28 : decode b_M_blocking 28 = .ok (.iconst (-1), 1) := by decide +kernel
theorem d_M_blocking_29 : decode b_M_blocking 29 = .ok (.ireturn, 1) := by decide +kernel
theorem d_M_load_0 : decode b_M_load 0 = .ok (.aload_n 0, 1) := by decide +kernel
theorem d_M_load_1 : decode b_M_load 1 = .ok (.getfield 13, 3) := by decide +kernel
theorem d_M_load_4 : decode b_M_load 4 = .ok (.iload_n 1, 1) := by decide +kernel
theorem d_M_load_5 : decode b_M_load 5 = .ok (.iaload, 1) := by decide +kernel
theorem d_M_load_6 : decode b_M_load 6 = .ok (.aload_n 0, 1) := by decide +kernel
theorem d_M_load_7 : decode b_M_load 7 = .ok (.iload_n 1, 1) := by decide +kernel
theorem d_M_load_8 : decode b_M_load 8 = .ok (.invokevirtual 107, 3) := by decide +kernel
theorem d_M_load_11 : decode b_M_load 11 = .ok (.iadd, 1) := by decide +kernel
theorem d_M_load_12 : decode b_M_load 12 = .ok (.istore_n 3, 1) := by decide +kernel
theorem d_M_load_13 : decode b_M_load 13 = .ok (.iconst 0, 1) := by decide +kernel
theorem d_M_load_14 : decode b_M_load 14 = .ok (.istore 4, 2) := by decide +kernel
theorem d_M_load_16 : decode b_M_load 16 = .ok (.iload 4, 2) := by decide +kernel
theorem d_M_load_18 : decode b_M_load 18 = .ok (.bipush 8, 2) := by decide +kernel
theorem d_M_load_20 : decode b_M_load 20 = .ok (.if_icmp .ge 87, 3) := by decide +kernel
theorem d_M_load_23 : decode b_M_load 23 = .ok (.iload 4, 2) := by decide +kernel
theorem d_M_load_25 : decode b_M_load 25 = .ok (.iload_n 1, 1) := by decide +kernel
theorem d_M_load_26 : decode b_M_load 26 = .ok (.if_icmp .eq 33, 3) := by decide +kernel
theorem d_M_load_29 : decode b_M_load 29 = .ok (.aload_n 0, 1) := by decide +kernel
theorem d_M_load_30 : decode b_M_load 30 = .ok (.getfield 7, 3) := by decide +kernel
theorem d_M_load_33 : decode b_M_load 33 = .ok (.iload 4, 2) := by decide +kernel
theorem d_M_load_35 : decode b_M_load 35 = .ok (.iaload, 1) := by decide +kernel
theorem d_M_load_36 : decode b_M_load 36 = .ok (.ifCond .le 23, 3) := by decide +kernel
theorem d_M_load_39 : decode b_M_load 39 = .ok (.aload_n 0, 1) := by decide +kernel
theorem d_M_load_40 : decode b_M_load 40 = .ok (.getfield 7, 3) := by decide +kernel
theorem d_M_load_43 : decode b_M_load 43 = .ok (.iload 4, 2) := by decide +kernel
theorem d_M_load_45 : decode b_M_load 45 = .ok (.iaload, 1) := by decide +kernel
theorem d_M_load_46 : decode b_M_load 46 = .ok (.aload_n 0, 1) := by decide +kernel
theorem d_M_load_47 : decode b_M_load 47 = .ok (.getfield 7, 3) := by decide +kernel
theorem d_M_load_50 : decode b_M_load 50 = .ok (.iload_n 1, 1) := by decide +kernel
theorem d_M_load_51 : decode b_M_load 51 = .ok (.iaload, 1) := by decide +kernel
theorem d_M_load_52 : decode b_M_load 52 = .ok (.if_icmp .lt 7, 3) := by decide +kernel
theorem d_M_load_55 : decode b_M_load 55 = .ok (.iconst 1, 1) := by decide +kernel
theorem d_M_load_56 : decode b_M_load 56 = .ok (.goto 4, 3) := by decide +kernel
theorem d_M_load_59 : decode b_M_load 59 = .ok (.iconst 0, 1) := by decide +kernel
theorem d_M_load_60 : decode b_M_load 60 = .ok (.istore 5, 2) := by decide +kernel
theorem d_M_load_62 : decode b_M_load 62 = .ok (.iload_n 3, 1) := by decide +kernel
theorem d_M_load_63 : decode b_M_load 63 = .ok (.iload 5, 2) := by decide +kernel
theorem d_M_load_65 : decode b_M_load 65 = .ok (.ifCond .eq 33, 3) := by decide +kernel
theorem d_M_load_68 : decode b_M_load 68 = .ok (.iload_n 2, 1) := by decide +kernel
theorem d_M_load_69 : decode b_M_load 69 = .ok (.aload_n 0, 1) := by decide +kernel
theorem d_M_load_70 : decode b_M_load 70 = .ok (.getfield 16, 3) := by decide +kernel
theorem d_M_load_73 : decode b_M_load 73 = .ok (.iload 4, 2) := by decide +kernel
theorem d_M_load_75 : decode b_M_load 75 = .ok (.iaload, 1) := by decide +kernel
theorem d_M_load_76 : decode b_M_load 76 = .ok (.iadd, 1) := by decide +kernel
theorem d_M_load_77 : decode b_M_load 77 = .ok (.iconst 1, 1) := by decide +kernel
theorem d_M_load_78 : decode b_M_load 78 = .ok (.isub, 1) := by decide +kernel
theorem d_M_load_79 : decode b_M_load 79 = .ok (.aload_n 0, 1) := by decide +kernel
theorem d_M_load_80 : decode b_M_load 80 = .ok (.getfield 16, 3) := by decide +kernel
theorem d_M_load_83 : decode b_M_load 83 = .ok (.iload 4, 2) := by decide +kernel
theorem d_M_load_85 : decode b_M_load 85 = .ok (.iaload, 1) := by decide +kernel
theorem d_M_load_86 : decode b_M_load 86 = .ok (.idiv, 1) := by decide +kernel
theorem d_M_load_87 : decode b_M_load 87 = .ok (.aload_n 0, 1) := by decide +kernel
theorem d_M_load_88 : decode b_M_load 88 = .ok (.getfield 13, 3) := by decide +kernel
theorem d_M_load_91 : decode b_M_load 91 = .ok (.iload 4, 2) := by decide +kernel
theorem d_M_load_93 : decode b_M_load 93 = .ok (.iaload, 1) := by decide +kernel
theorem d_M_load_94 : decode b_M_load 94 = .ok (.imul, 1) := by decide +kernel
theorem d_M_load_95 : decode b_M_load 95 = .ok (.goto 4, 3) := by decide +kernel
theorem d_M_load_98 : decode b_M_load 98 = .ok (.iconst 0, 1) := by decide +kernel
theorem d_M_load_99 : decode b_M_load 99 = .ok (.iadd, 1) := by decide +kernel
theorem d_M_load_100 : decode b_M_load 100 = .ok (.istore_n 3, 1) := by decide +kernel
theorem d_M_load_101 : decode b_M_load 101 = .ok (.iinc 4 1, 3) := by decide +kernel
theorem d_M_load_104 : decode b_M_load 104 = .ok (.goto (-88), 3) := by decide +kernel
theorem d_M_load_107 : decode b_M_load 107 = .ok (.iload_n 3, 1) := by decide +kernel
theorem d_M_load_108 : decode b_M_load 108 = .ok (.ireturn, 1) := by decide +kernel
theorem d_M_response_0 : decode b_M_response 0 = .ok (.aload_n 0, 1) := by decide +kernel
theorem d_M_response_1 : decode b_M_response 1 = .ok (.iconst 0, 1) := by decide +kernel
theorem d_M_response_2 : decode b_M_response 2 = .ok (.putfield 46, 3) := by decide +kernel
theorem d_M_response_5 : decode b_M_response 5 = .ok (.aload_n 0, 1) := by decide +kernel
theorem d_M_response_6 : decode b_M_response 6 = .ok (.getfield 54, 3) := by decide +kernel
theorem d_M_response_9 : decode b_M_response 9 = .ok (.ifCond .eq 11, 3) := by decide +kernel
theorem d_M_response_12 : decode b_M_response 12 = .ok (.aload_n 0, 1) := by decide +kernel
theorem d_M_response_13 : decode b_M_response 13 = .ok (.iload_n 1, 1) := by decide +kernel
theorem d_M_response_14 : decode b_M_response 14 = .ok (.invokevirtual 58, 3) := by decide +kernel
theorem d_M_response_17 : decode b_M_response 17 = .ok (.ifCond .ne 5, 3) := by decide +kernel
theorem d_M_response_20 : decode b_M_response 20 = .ok (.iconst (-1), 1) := by decide +kernel
theorem d_M_response_21 : decode b_M_response 21 = .ok (.ireturn, 1) := by decide +kernel
theorem d_M_response_22 : decode b_M_response 22 = .ok (.iconst 1, 1) := by decide +kernel
theorem d_M_response_23 : decode b_M_response 23 = .ok (.istore_n 2, 1) := by decide +kernel
theorem d_M_response_24 : decode b_M_response 24 = .ok (.iload_n 2, 1) := by decide +kernel
theorem d_M_response_25 : decode b_M_response 25 = .ok (.aload_n 0, 1) := by decide +kernel
theorem d_M_response_26 : decode b_M_response 26 = .ok (.getfield 16, 3) := by decide +kernel
theorem d_M_response_29 : decode b_M_response 29 = .ok (.iload_n 1, 1) := by decide +kernel
theorem d_M_response_30 : decode b_M_response 30 = .ok (.iaload, 1) := by decide +kernel
theorem d_M_response_31 : decode b_M_response 31 = .ok (.if_icmp .gt 21, 3) := by decide +kernel
theorem d_M_response_34 : decode b_M_response 34 = .ok (.aload_n 0, 1) := by decide +kernel
theorem d_M_response_35 : decode b_M_response 35 = .ok (.iload_n 1, 1) := by decide +kernel
theorem d_M_response_36 : decode b_M_response 36 = .ok (.iload_n 2, 1) := by decide +kernel
theorem d_M_response_37 : decode b_M_response 37 = .ok (.invokevirtual 110, 3) := by decide +kernel
theorem d_M_response_40 : decode b_M_response 40 = .ok (.iload_n 2, 1) := by decide +kernel
theorem d_M_response_41 : decode b_M_response 41 = .ok (.if_icmp .ne 5, 3) := by decide +kernel
theorem d_M_response_44 : decode b_M_response 44 = .ok (.iload_n 2, 1) := by decide +kernel
theorem d_M_response_45 : decode b_M_response 45 = .ok (.ireturn, 1) := by decide +kernel
theorem d_M_response_46 : decode b_M_response 46 = .ok (.iinc 2 1, 3) := by decide +kernel
theorem d_M_response_49 : decode b_M_response 49 = .ok (.goto (-25), 3) := by decide +kernel
theorem d_M_response_52 : decode b_M_response 52 = .ok (.iconst (-1), 1) := by decide +kernel
theorem d_M_response_53 : decode b_M_response 53 = .ok (.ireturn, 1) := by decide +kernel
theorem d_M_notes_0 : decode b_M_notes 0 = .ok (.aload_n 0, 1) := by decide +kernel
theorem d_M_notes_1 : decode b_M_notes 1 = .ok (.iconst 0, 1) := by decide +kernel
theorem d_M_notes_2 : decode b_M_notes 2 = .ok (.putfield 46, 3) := by decide +kernel
theorem d_M_notes_5 : decode b_M_notes 5 = .ok (.aload_n 0, 1) := by decide +kernel
theorem d_M_notes_6 : decode b_M_notes 6 = .ok (.getfield 72, 3) := by decide +kernel
theorem d_M_notes_9 : decode b_M_notes 9 = .ok (.ireturn, 1) := by decide +kernel
theorem d_M_note_0 : decode b_M_note 0 = .ok (.aload_n 0, 1) := by decide +kernel
theorem d_M_note_1 : decode b_M_note 1 = .ok (.iconst 0, 1) := by decide +kernel
theorem d_M_note_2 : decode b_M_note 2 = .ok (.putfield 46, 3) := by decide +kernel
theorem d_M_note_5 : decode b_M_note 5 = .ok (.iload_n 1, 1) := by decide +kernel
theorem d_M_note_6 : decode b_M_note 6 = .ok (.ifCond .lt 17, 3) := by decide +kernel
theorem d_M_note_9 : decode b_M_note 9 = .ok (.iload_n 1, 1) := by decide +kernel
theorem d_M_note_10 : decode b_M_note 10 = .ok (.bipush 40, 2) := by decide +kernel
theorem d_M_note_12 : decode b_M_note 12 = .ok (.if_icmp .ge 11, 3) := by decide +kernel
theorem d_M_note_15 : decode b_M_note 15 = .ok (.iload_n 1, 1) := by decide +kernel
theorem d_M_note_16 : decode b_M_note 16 = .ok (.aload_n 0, 1) := by decide +kernel
theorem d_M_note_17 : decode b_M_note 17 = .ok (.getfield 72, 3) := by decide +kernel
theorem d_M_note_20 : decode b_M_note 20 = .ok (.if_icmp .lt 7, 3) := by decide +kernel
theorem d_M_note_23 : decode b_M_note 23 = .ok (.iconst (-1), 1) := by decide +kernel
theorem d_M_note_24 : decode b_M_note 24 = .ok (.goto 19, 3) := by decide +kernel
theorem d_M_note_27 : decode b_M_note 27 = .ok (.aload_n 0, 1) := by decide +kernel
theorem d_M_note_28 : decode b_M_note 28 = .ok (.getfield 43, 3) := by decide +kernel
theorem d_M_note_31 : decode b_M_note 31 = .ok (.aload_n 0, 1) := by decide +kernel
theorem d_M_note_32 : decode b_M_note 32 = .ok (.getfield 72, 3) := by decide +kernel
theorem d_M_note_35 : decode b_M_note 35 = .ok (.iconst 1, 1) := by decide +kernel
theorem d_M_note_36 : decode b_M_note 36 = .ok (.isub, 1) := by decide +kernel
theorem d_M_note_37 : decode b_M_note 37 = .ok (.iload_n 1, 1) := by decide +kernel
theorem d_M_note_38 : decode b_M_note 38 = .ok (.isub, 1) := by decide +kernel
theorem d_M_note_39 : decode b_M_note 39 = .ok (.bipush 40, 2) := by decide +kernel
theorem d_M_note_41 : decode b_M_note 41 = .ok (.irem, 1) := by decide +kernel
theorem d_M_note_42 : decode b_M_note 42 = .ok (.iaload, 1) := by decide +kernel
theorem d_M_note_43 : decode b_M_note 43 = .ok (.ireturn, 1) := by decide +kernel
end
section
set_option maxHeartbeats 4000000 in
set_option maxRecDepth 100000 in
theorem c_J_floorMod (l : Launch) (p0 : Int32) (p1 : Int32) (hy0 : ¬ p1 = 0) : Met l y_J_floorMod w_J_floorMod { frames := 0, cells := 0, slots := 0, locals := 0 } (va_Pc [.int p0, .int p1] (fun _ => True)) (QcRead (f_J_floorMod p0 p1)) 0 0 (fun _ => False) := by
  refine va_MetF (cc := b_J_floorMod) (maxL := 3) (ret := (some .int)) (by decide +kernel) rfl ?_
  intro p e s m args below meth c s₁ B hml hv
  obtain ⟨rfl, -⟩ := hv
  have hx := B.exec
  have hb := B.bytes
  have hr := B.returns
  have hlocks := B.notSynchronized
  have hts0 := atoms_spec (ws := w_J_floorMod) B.pre
  have hts : ∀ w ∈ TT, w.before [.int p0, .int p1].toArray s = true := fun w h => hts0 w (List.mem_cons_of_mem _ h)
  have hown : s.vm.findClass R_J = some m.cls := findClass_of_methodNamed B.named
  have hl := lv_entry ([.int p0, .int p1]) (n := 3) (Nat.le_of_ble_eq_true rfl)
  rw [lg_entry_eq]
  generalize (lg_sl ([.int p0, .int p1]) ++ List.replicate (3 - (lg_sl ([.int p0, .int p1])).length) Slot.unset).toArray = ls at hl ⊢
  have hl : lv_has ls 3 [(0, .int p0), (1, .int p1)] := hl
  have he := f_J_floorMod.eq_1 p0 p1
  refine lv_iload_n hx hb d_J_floorMod_0 rfl (lv_at hl 0 rfl) ?_
  refine lv_iload_n hx hb d_J_floorMod_1 rfl (lv_at hl 1 rfl) ?_
  refine lv_irem hx hb d_J_floorMod_2 (by first | with_reducible assumption | exact vi_ne0 (by with_reducible assumption) | exact hy1 _ (by omega) (i32_pos (by with_reducible assumption)) | decide) ?_
  refine W.eq (g2 := F0 m 3 ls [.int (irem p0 p1)]) rfl ?_
  refine lv_istore_n hx hb d_J_floorMod_3 rfl hl (by decide) rfl (fun ls hl => ?_)
  have hl : lv_has ls 3 [(2, .int (irem p0 p1)), (0, .int p0), (1, .int p1)] := hl
  refine lv_iload_n hx hb d_J_floorMod_4 rfl (lv_at hl 1 rfl) ?_
  refine lv_iload_n hx hb d_J_floorMod_5 rfl (lv_at hl 2 rfl) ?_
  refine lv_ixor hx hb d_J_floorMod_6 ?_
  refine lv_if_ge (tgt := 18) hx hb d_J_floorMod_7 (by decide) (fun hc1 => ?_) (fun hc1 => ?_)
  · have he := he.trans (if_pos hc1)
    refine lv_iload_n hx hb d_J_floorMod_18 rfl (lv_at hl 0 rfl) ?_
    exact W.iret (v := (irem p0 p1)) hx hb hr (fun t ht _ => ⟨by rw [he], ht⟩) (fun _ h => nomatch h) d_J_floorMod_19
  · have he := he.trans (if_neg hc1)
    refine lv_iload_n hx hb d_J_floorMod_10 rfl (lv_at hl 0 rfl) ?_
    refine lv_if_eq (tgt := 18) hx hb d_J_floorMod_11 (by decide) (fun hc2 => ?_) (fun hc2 => ?_)
    · have he := he.trans (if_pos hc2)
      refine lv_iload_n hx hb d_J_floorMod_18 rfl (lv_at hl 0 rfl) ?_
      exact W.iret (v := (irem p0 p1)) hx hb hr (fun t ht _ => ⟨by rw [he], ht⟩) (fun _ h => nomatch h) d_J_floorMod_19
    · have he := he.trans (if_neg hc2)
      refine lv_iload_n hx hb d_J_floorMod_14 rfl (lv_at hl 0 rfl) ?_
      refine lv_iload_n hx hb d_J_floorMod_15 rfl (lv_at hl 2 rfl) ?_
      refine lv_iadd hx hb d_J_floorMod_16 ?_
      exact W.iret (v := ((irem p0 p1) + p1)) hx hb hr (fun t ht _ => ⟨by rw [he], ht⟩) (fun _ h => nomatch h) d_J_floorMod_17
set_option maxHeartbeats 4000000 in
set_option maxRecDepth 100000 in
theorem c_C_isIn (l : Launch) (p0 : Int32) (p1 : Int32) (p2 : Int32) : Met l y_C_isIn w_C_isIn { frames := 0, cells := 0, slots := 0, locals := 0 } (va_Pc [.int p0, .int p1, .int p2] (fun _ => True)) (QcRead (f_C_isIn p0 p1 p2)) 0 0 (fun _ => False) := by
  refine Met.ofW (cc := b_C_isIn) (maxL := 3) (ret := (some .boolean)) (by decide +kernel) rfl ?_
  intro p e s m args below meth c s₁ B hml hv
  obtain ⟨rfl, -⟩ := hv
  have hx := B.exec
  have hb := B.bytes
  have hr := B.returns
  have hlocks := B.notSynchronized
  have hts0 := atoms_spec (ws := w_C_isIn) B.pre
  have hts : ∀ w ∈ TT, w.before [.int p0, .int p1, .int p2].toArray s = true := fun w h => hts0 w (List.mem_cons_of_mem _ h)
  have hown : s.vm.findClass R_C = some m.cls := findClass_of_methodNamed B.named
  have hl := lv_entry ([.int p0, .int p1, .int p2]) (n := 3) (Nat.le_of_ble_eq_true rfl)
  rw [lg_entry_eq]
  generalize (lg_sl ([.int p0, .int p1, .int p2]) ++ List.replicate (3 - (lg_sl ([.int p0, .int p1, .int p2])).length) Slot.unset).toArray = ls at hl ⊢
  have hl : lv_has ls 3 [(0, .int p0), (1, .int p1), (2, .int p2)] := hl
  have he := f_C_isIn.eq_1 p0 p1 p2
  refine lv_iload_n hx hb d_C_isIn_0 rfl (lv_at hl 0 rfl) ?_
  refine lv_iload_n hx hb d_C_isIn_1 rfl (lv_at hl 1 rfl) ?_
  refine lv_icmp_lt (tgt := 14) hx hb d_C_isIn_2 (by decide) (fun hc1 => ?_) (fun hc1 => ?_)
  · have he := he.trans (if_pos hc1)
    refine lv_iconst (v := 0) hx hb d_C_isIn_14 (by decide) ?_
    exact W.zret (v := 0) hx hb hr (by decide) (fun t ht _ => ⟨by rw [he], ht⟩) (fun _ h => nomatch h) d_C_isIn_15
  · have he := he.trans (if_neg hc1)
    refine lv_iload_n hx hb d_C_isIn_5 rfl (lv_at hl 0 rfl) ?_
    refine lv_iload_n hx hb d_C_isIn_6 rfl (lv_at hl 2 rfl) ?_
    refine lv_icmp_gt (tgt := 14) hx hb d_C_isIn_7 (by decide) (fun hc2 => ?_) (fun hc2 => ?_)
    · have he := he.trans (if_pos hc2)
      refine lv_iconst (v := 0) hx hb d_C_isIn_14 (by decide) ?_
      exact W.zret (v := 0) hx hb hr (by decide) (fun t ht _ => ⟨by rw [he], ht⟩) (fun _ h => nomatch h) d_C_isIn_15
    · have he := he.trans (if_neg hc2)
      refine lv_iconst (v := 1) hx hb d_C_isIn_10 (by decide) ?_
      refine lv_goto (tgt := 15) hx hb d_C_isIn_11 (by decide) ?_
      exact W.zret (v := 1) hx hb hr (by decide) (fun t ht _ => ⟨by rw [he], ht⟩) (fun _ h => nomatch h) d_C_isIn_15
set_option maxHeartbeats 4000000 in
set_option maxRecDepth 100000 in
theorem c_C_isThing (l : Launch) (p0 : Int32) : Met l y_C_isThing w_C_isThing { frames := 1, cells := 0, slots := 0, locals := 22 } (va_Pc [.int p0] (fun _ => True)) (QcRead (f_C_isThing p0)) 0 0 (fun _ => False) := by
  refine Met.ofW (cc := b_C_isThing) (maxL := 1) (ret := (some .boolean)) (by decide +kernel) rfl ?_
  intro p e s m args below meth c s₁ B hml hv
  obtain ⟨rfl, -⟩ := hv
  have hx := B.exec
  have hb := B.bytes
  have hr := B.returns
  have hlocks := B.notSynchronized
  have hts0 := atoms_spec (ws := w_C_isThing) B.pre
  have hts : ∀ w ∈ TT, w.before [.int p0].toArray s = true := fun w h => hts0 w (List.mem_cons_of_mem _ h)
  have hown : s.vm.findClass R_C = some m.cls := findClass_of_methodNamed B.named
  have hl := lv_entry ([.int p0]) (n := 1) (Nat.le_of_ble_eq_true rfl)
  rw [lg_entry_eq]
  generalize (lg_sl ([.int p0]) ++ List.replicate (1 - (lg_sl ([.int p0])).length) Slot.unset).toArray = ls at hl ⊢
  have hl : lv_has ls 1 [(0, .int p0)] := hl
  have he := f_C_isThing.eq_1 p0
  refine lv_iload_n hx hb d_C_isThing_0 rfl (lv_at hl 0 rfl) ?_
  refine lv_iconst (v := 0) hx hb d_C_isThing_1 (by decide) ?_
  refine lv_iconst (v := 5) hx hb d_C_isThing_2 (by decide) ?_
  refine rdS (As := [.int p0, .int 0, .int 5]) (rest := []) (na := 3) (c_C_isIn l p0 0 5 ) ⟨hx, hb, hml, hown, hts⟩ k_163 k_164 k_24 k_165 (by decide +kernel) (by decide) (by decide) rfl hl.1 rfl (Nat.le_of_ble_eq_true rfl) d_C_isThing_3 ?_
  exact W.zret (v := (f_C_isIn p0 0 5)) hx hb hr (nb_isIn _ _ _) (fun t ht _ => ⟨by rw [he], ht⟩) (fun _ h => nomatch h) d_C_isThing_6
set_option maxHeartbeats 4000000 in
set_option maxRecDepth 100000 in
theorem c_T_isDeclared (l : Launch) (D : va_G) (cI cT cH : ClassId) (ad : Nat → Nat) (st : St) (j0 : Nat) (hj0 : j0 < 8) : Met l y_T_isDeclared w_T_isDeclared { frames := 0, cells := 0, slots := 0, locals := 0 } (va_Pc [.ref (ad (5 + 2 * j0))] (gW D cI cT cH (cw cI cT cH ad st))) (QcRead (f_T_isDeclared st j0)) 0 0 (fun _ => False) := by
  refine Met.ofW (cc := b_T_isDeclared) (maxL := 1) (ret := (some .boolean)) (by decide +kernel) rfl ?_
  intro p e s m args below meth c s₁ B hml hv
  obtain ⟨rfl, hP, hK, hN⟩ := hv
  have hx := B.exec
  have hb := B.bytes
  have hr := B.returns
  have hlocks := B.notSynchronized
  have hts0 := atoms_spec (ws := w_T_isDeclared) B.pre
  have hts : ∀ w ∈ TT, w.before [.ref (ad (5 + 2 * j0))].toArray s = true := fun w h => hts0 w (List.mem_cons_of_mem _ h)
  have hown : s.vm.findClass R_T = some m.cls := findClass_of_methodNamed B.named
  have hl := lv_entry ([.ref (ad (5 + 2 * j0))]) (n := 1) (Nat.le_of_ble_eq_true rfl)
  rw [lg_entry_eq]
  generalize (lg_sl ([.ref (ad (5 + 2 * j0))]) ++ List.replicate (1 - (lg_sl ([.ref (ad (5 + 2 * j0))])).length) Slot.unset).toArray = ls at hl ⊢
  have hl : lv_has ls 1 [(0, .ref (ad (5 + 2 * j0)))] := hl
  have he := f_T_isDeclared.eq_1 st j0
  refine lv_aload_n hx hb d_T_isDeclared_0 rfl (lv_at hl 0 rfl) ?_
  refine va_get (D := D) (ci := 1) (v := .int (st (5 + 2 * j0) 2)) (C := R_T) (T := F_T) (N := 10) hx hb hts in_T hown hK hP (5 + 2 * j0) (cw_k hj0) rfl 2 (by decide) (hts _ k_71) (fun _ h9 => h9) rfl d_T_isDeclared_1 ?_
  refine lv_if_le (tgt := 11) hx hb d_T_isDeclared_4 (by decide) (fun hc1 => ?_) (fun hc1 => ?_)
  · have he := he.trans (if_pos hc1)
    refine lv_iconst (v := 0) hx hb d_T_isDeclared_11 (by decide) ?_
    exact W.zret (v := 0) hx hb hr (by decide) (fun t ht _ => ⟨by rw [he], ht⟩) (fun _ h => nomatch h) d_T_isDeclared_12
  · have he := he.trans (if_neg hc1)
    refine lv_iconst (v := 1) hx hb d_T_isDeclared_7 (by decide) ?_
    refine lv_goto (tgt := 12) hx hb d_T_isDeclared_8 (by decide) ?_
    exact W.zret (v := 1) hx hb hr (by decide) (fun t ht _ => ⟨by rw [he], ht⟩) (fun _ h => nomatch h) d_T_isDeclared_12
set_option maxHeartbeats 4000000 in
set_option maxRecDepth 100000 in
theorem c_T_isUserOf (l : Launch) (D : va_G) (cI cT cH : ClassId) (ad : Nat → Nat) (st : St) (j0 : Nat) (p1 : Int32) (hj0 : j0 < 8) (hy0 : vp_in p1 6) : Met l y_T_isUserOf w_T_isUserOf { frames := 0, cells := 0, slots := 0, locals := 0 } (va_Pc [.ref (ad (5 + 2 * j0)), .int p1] (gW D cI cT cH (cw cI cT cH ad st))) (QcRead (f_T_isUserOf st j0 p1)) 0 0 (fun _ => False) := by
  refine Met.ofW (cc := b_T_isUserOf) (maxL := 2) (ret := (some .boolean)) (by decide +kernel) rfl ?_
  intro p e s m args below meth c s₁ B hml hv
  obtain ⟨rfl, hP, hK, hN⟩ := hv
  have hx := B.exec
  have hb := B.bytes
  have hr := B.returns
  have hlocks := B.notSynchronized
  have hts0 := atoms_spec (ws := w_T_isUserOf) B.pre
  have hts : ∀ w ∈ TT, w.before [.ref (ad (5 + 2 * j0)), .int p1].toArray s = true := fun w h => hts0 w (List.mem_cons_of_mem _ h)
  have hown : s.vm.findClass R_T = some m.cls := findClass_of_methodNamed B.named
  have hl := lv_entry ([.ref (ad (5 + 2 * j0)), .int p1]) (n := 2) (Nat.le_of_ble_eq_true rfl)
  rw [lg_entry_eq]
  generalize (lg_sl ([.ref (ad (5 + 2 * j0)), .int p1]) ++ List.replicate (2 - (lg_sl ([.ref (ad (5 + 2 * j0)), .int p1])).length) Slot.unset).toArray = ls at hl ⊢
  have hl : lv_has ls 2 [(0, .ref (ad (5 + 2 * j0))), (1, .int p1)] := hl
  have he := f_T_isUserOf.eq_1 st j0 p1
  refine lv_aload_n hx hb d_T_isUserOf_0 rfl (lv_at hl 0 rfl) ?_
  refine va_get (D := D) (ci := 1) (v := .ref (ad (5 + 2 * j0 + 1))) (C := R_T) (T := F_T) (N := 10) hx hb hts in_T hown hK hP (5 + 2 * j0) (cw_k hj0) rfl 3 (by decide) (hts _ k_73) (fun _ h9 => h9) rfl d_T_isUserOf_1 ?_
  refine lv_iload_n hx hb d_T_isUserOf_4 rfl (lv_at hl 1 rfl) ?_
  have hi1 : vp_in p1 6 := (by first | with_reducible assumption | exact vi_isIn7 (by with_reducible assumption) | exact vi_isThing (by with_reducible assumption) | exact vi_decl (by with_reducible assumption) | exact vi_ready (by with_reducible assumption) | exact vi_run (by with_reducible assumption) (by with_reducible assumption) | exact vi_run (by with_reducible assumption) (vi_runner _) | exact vi_mTask (by with_reducible assumption) | exact vi_mThing (by with_reducible assumption) | exact vi_mdecl (by with_reducible assumption) | exact vi_mready (by with_reducible assumption))
  refine va_iald hx hb hK hP (5 + 2 * j0 + 1) 0 (cw_l hj0) rfl hi1 d_T_isUserOf_5 ?_
  refine W.eq (g2 := F0 m 6 ls [.int (st (5 + 2 * j0 + 1) p1.toNatClampNeg)]) rfl ?_
  refine lv_if_le (tgt := 13) hx hb d_T_isUserOf_6 (by decide) (fun hc2 => ?_) (fun hc2 => ?_)
  · have he := he.trans (if_pos hc2)
    refine lv_iconst (v := 0) hx hb d_T_isUserOf_13 (by decide) ?_
    exact W.zret (v := 0) hx hb hr (by decide) (fun t ht _ => ⟨by rw [he], ht⟩) (fun _ h => nomatch h) d_T_isUserOf_14
  · have he := he.trans (if_neg hc2)
    refine lv_iconst (v := 1) hx hb d_T_isUserOf_9 (by decide) ?_
    refine lv_goto (tgt := 14) hx hb d_T_isUserOf_10 (by decide) ?_
    exact W.zret (v := 1) hx hb hr (by decide) (fun t ht _ => ⟨by rw [he], ht⟩) (fun _ h => nomatch h) d_T_isUserOf_14
set_option maxHeartbeats 4000000 in
set_option maxRecDepth 100000 in
theorem c_T_makeReady (l : Launch) (D : va_G) (cI cT cH : ClassId) (ad : Nat → Nat) (st : St) (j0 : Nat) (p1 : Int32) (hI : ∀ i j, i < 27 → j < 27 → ad i = ad j → i = j) (hj0 : j0 < 8) : Met l y_T_makeReady w_T_makeReady { frames := 0, cells := 0, slots := 0, locals := 0 } (va_Pc [.ref (ad (5 + 2 * j0)), .int p1] (gW D cI cT cH (cw cI cT cH ad st))) (qV D (cw cI cT cH ad (f_T_makeReady st j0 p1)) (inA ad 27)) 0 0 (inA ad 27) := by
  refine Met.ofW (cc := b_T_makeReady) (maxL := 2) (ret := none) (by decide +kernel) rfl ?_
  intro p e s m args below meth c s₁ B hml hv
  obtain ⟨rfl, hP, hK, hN⟩ := hv
  have hx := B.exec
  have hb := B.bytes
  have hr := B.returns
  have hlocks := B.notSynchronized
  have hts0 := atoms_spec (ws := w_T_makeReady) B.pre
  have hts : ∀ w ∈ TT, w.before [.ref (ad (5 + 2 * j0)), .int p1].toArray s = true := fun w h => hts0 w (List.mem_cons_of_mem _ h)
  have hown : s.vm.findClass R_T = some m.cls := findClass_of_methodNamed B.named
  have hS : va_S (inA ad 27) s.heap s.heap [] := va_S.rf
  have hl := lv_entry ([.ref (ad (5 + 2 * j0)), .int p1]) (n := 2) (Nat.le_of_ble_eq_true rfl)
  rw [lg_entry_eq]
  generalize (lg_sl ([.ref (ad (5 + 2 * j0)), .int p1]) ++ List.replicate (2 - (lg_sl ([.ref (ad (5 + 2 * j0)), .int p1])).length) Slot.unset).toArray = ls at hl ⊢
  have hl : lv_has ls 2 [(0, .ref (ad (5 + 2 * j0))), (1, .int p1)] := hl
  have he := f_T_makeReady.eq_1 st j0 p1
  refine lv_aload_n hx hb d_T_makeReady_0 rfl (lv_at hl 0 rfl) ?_
  refine lv_iconst (v := 1) hx hb d_T_makeReady_1 (by decide) ?_
  refine va_put (D := D) (ci := 1) (v := .int 1) (ty := .boolean) (C := R_T) (T := F_T) (N := 10) hx hb hts in_T ft_T ft_T_ok n_T hown hK hP (cw_D hI) hS (5 + 2 * j0) (cw_k hj0) rfl 4 (by decide) (hts _ k_75) (fun _ h9 => h9) rfl (by decide +kernel) rfl rfl (Nat.le_of_ble_eq_true rfl) d_T_makeReady_2 (fun H locs hP _ hS => ?_)
  rw [cp_k (k := 4) hj0 (by decide) (by decide)] at hP
  generalize hw2 : wr st (5 + 2 * j0) 4 1 = sw1 at hP he
  refine W.eq (g2 := F0 m 5 ls []) rfl ?_
  rw [f_T_makeReady_S5] at he
  refine lv_aload_n hx hb d_T_makeReady_5 rfl (lv_at hl 0 rfl) ?_
  refine lv_aload_n hx hb d_T_makeReady_6 rfl (lv_at hl 0 rfl) ?_
  refine va_get (D := D) (ci := 1) (v := .int (sw1 (5 + 2 * j0) 0)) (C := R_T) (T := F_T) (N := 10) hx hb hts in_T hown hK hP (5 + 2 * j0) (cw_k hj0) rfl 0 (by decide) (hts _ k_67) (fun _ h9 => h9) rfl d_T_makeReady_7 ?_
  refine va_put (D := D) (ci := 1) (v := .int (sw1 (5 + 2 * j0) 0)) (ty := .int) (C := R_T) (T := F_T) (N := 10) hx hb hts in_T ft_T ft_T_ok n_T hown hK hP (cw_D hI) hS (5 + 2 * j0) (cw_k hj0) rfl 5 (by decide) (hts _ k_77) (fun _ h9 => h9) rfl (by decide +kernel) rfl rfl (Nat.le_of_ble_eq_true rfl) d_T_makeReady_10 (fun H locs hP _ hS => ?_)
  rw [cp_k (k := 5) hj0 (by decide) (by decide)] at hP
  generalize hw4 : wr sw1 (5 + 2 * j0) 5 (sw1 (5 + 2 * j0) 0) = sw3 at hP he
  refine W.eq (g2 := F0 m 13 ls []) rfl ?_
  rw [f_T_makeReady_S13] at he
  refine lv_aload_n hx hb d_T_makeReady_13 rfl (lv_at hl 0 rfl) ?_
  refine lv_iload_n hx hb d_T_makeReady_14 rfl (lv_at hl 1 rfl) ?_
  refine va_put (D := D) (ci := 1) (v := .int p1) (ty := .int) (C := R_T) (T := F_T) (N := 10) hx hb hts in_T ft_T ft_T_ok n_T hown hK hP (cw_D hI) hS (5 + 2 * j0) (cw_k hj0) rfl 6 (by decide) (hts _ k_79) (fun _ h9 => h9) rfl (by decide +kernel) rfl rfl (Nat.le_of_ble_eq_true rfl) d_T_makeReady_15 (fun H locs hP _ hS => ?_)
  rw [cp_k (k := 6) hj0 (by decide) (by decide)] at hP
  generalize hw6 : wr sw3 (5 + 2 * j0) 6 p1 = sw5 at hP he
  refine W.eq (g2 := F0 m 18 ls []) rfl ?_
  rw [f_T_makeReady_S18] at he
  refine lv_aload_n hx hb d_T_makeReady_18 rfl (lv_at hl 0 rfl) ?_
  refine lv_iconst (v := 0) hx hb d_T_makeReady_19 (by decide) ?_
  refine va_put (D := D) (ci := 1) (v := .int 0) (ty := .int) (C := R_T) (T := F_T) (N := 10) hx hb hts in_T ft_T ft_T_ok n_T hown hK hP (cw_D hI) hS (5 + 2 * j0) (cw_k hj0) rfl 8 (by decide) (hts _ k_82) (fun _ h9 => h9) rfl (by decide +kernel) rfl rfl (Nat.le_of_ble_eq_true rfl) d_T_makeReady_20 (fun H locs hP _ hS => ?_)
  rw [cp_k (k := 8) hj0 (by decide) (by decide)] at hP
  generalize hw8 : wr sw5 (5 + 2 * j0) 8 0 = sw7 at hP he
  refine W.eq (g2 := F0 m 23 ls []) rfl ?_
  rw [f_T_makeReady_S23] at he
  refine lv_aload_n hx hb d_T_makeReady_23 rfl (lv_at hl 0 rfl) ?_
  refine lv_iconst (v := 0) hx hb d_T_makeReady_24 (by decide) ?_
  refine va_put (D := D) (ci := 1) (v := .int 0) (ty := .int) (C := R_T) (T := F_T) (N := 10) hx hb hts in_T ft_T ft_T_ok n_T hown hK hP (cw_D hI) hS (5 + 2 * j0) (cw_k hj0) rfl 9 (by decide) (hts _ k_84) (fun _ h9 => h9) rfl (by decide +kernel) rfl rfl (Nat.le_of_ble_eq_true rfl) d_T_makeReady_25 (fun H locs hP _ hS => ?_)
  rw [cp_k (k := 9) hj0 (by decide) (by decide)] at hP
  generalize hw10 : wr sw7 (5 + 2 * j0) 9 0 = sw9 at hP he
  refine W.eq (g2 := F0 m 28 ls []) rfl ?_
  exact W.vret hx hb hr (fun t ht _ => ⟨⟨(), rfl, trivial, (by rw [he]; show va_P _ _ _ t.heap; rw [ht]; exact hP)⟩, hS.F ht⟩) hS.2.2 d_T_makeReady_28
set_option maxHeartbeats 4000000 in
set_option maxRecDepth 100000 in
theorem c_T_goesBefore (l : Launch) (D : va_G) (cI cT cH : ClassId) (ad : Nat → Nat) (st : St) (j0 : Nat) (j1 : Nat) (hj0 : j0 < 8) (hj1 : j1 < 8) : Met l y_T_goesBefore w_T_goesBefore { frames := 0, cells := 0, slots := 0, locals := 0 } (va_Pc [.ref (ad (5 + 2 * j0)), .ref (ad (5 + 2 * j1))] (gW D cI cT cH (cw cI cT cH ad st))) (QcRead (f_T_goesBefore st j0 j1)) 0 0 (fun _ => False) := by
  refine Met.ofW (cc := b_T_goesBefore) (maxL := 2) (ret := (some .boolean)) (by decide +kernel) rfl ?_
  intro p e s m args below meth c s₁ B hml hv
  obtain ⟨rfl, hP, hK, hN⟩ := hv
  have hx := B.exec
  have hb := B.bytes
  have hr := B.returns
  have hlocks := B.notSynchronized
  have hts0 := atoms_spec (ws := w_T_goesBefore) B.pre
  have hts : ∀ w ∈ TT, w.before [.ref (ad (5 + 2 * j0)), .ref (ad (5 + 2 * j1))].toArray s = true := fun w h => hts0 w (List.mem_cons_of_mem _ h)
  have hown : s.vm.findClass R_T = some m.cls := findClass_of_methodNamed B.named
  have hl := lv_entry ([.ref (ad (5 + 2 * j0)), .ref (ad (5 + 2 * j1))]) (n := 2) (Nat.le_of_ble_eq_true rfl)
  rw [lg_entry_eq]
  generalize (lg_sl ([.ref (ad (5 + 2 * j0)), .ref (ad (5 + 2 * j1))]) ++ List.replicate (2 - (lg_sl ([.ref (ad (5 + 2 * j0)), .ref (ad (5 + 2 * j1))])).length) Slot.unset).toArray = ls at hl ⊢
  have hl : lv_has ls 2 [(0, .ref (ad (5 + 2 * j0))), (1, .ref (ad (5 + 2 * j1)))] := hl
  have he := f_T_goesBefore.eq_1 st j0 j1
  refine lv_aload_n hx hb d_T_goesBefore_0 rfl (lv_at hl 0 rfl) ?_
  refine va_get (D := D) (ci := 1) (v := .int (st (5 + 2 * j0) 5)) (C := R_T) (T := F_T) (N := 10) hx hb hts in_T hown hK hP (5 + 2 * j0) (cw_k hj0) rfl 5 (by decide) (hts _ k_77) (fun _ h9 => h9) rfl d_T_goesBefore_1 ?_
  refine lv_aload_n hx hb d_T_goesBefore_4 rfl (lv_at hl 1 rfl) ?_
  refine va_get (D := D) (ci := 1) (v := .int (st (5 + 2 * j1) 5)) (C := R_T) (T := F_T) (N := 10) hx hb hts in_T hown hK hP (5 + 2 * j1) (cw_k hj1) rfl 5 (by decide) (hts _ k_77) (fun _ h9 => h9) rfl d_T_goesBefore_5 ?_
  refine lv_icmp_gt (tgt := 33) hx hb d_T_goesBefore_8 (by decide) (fun hc1 => ?_) (fun hc1 => ?_)
  · have he := he.trans (if_pos hc1)
    refine lv_iconst (v := 1) hx hb d_T_goesBefore_33 (by decide) ?_
    refine lv_goto (tgt := 38) hx hb d_T_goesBefore_34 (by decide) ?_
    exact W.zret (v := 1) hx hb hr (by decide) (fun t ht _ => ⟨by rw [he], ht⟩) (fun _ h => nomatch h) d_T_goesBefore_38
  · have he := he.trans (if_neg hc1)
    refine lv_aload_n hx hb d_T_goesBefore_11 rfl (lv_at hl 0 rfl) ?_
    refine va_get (D := D) (ci := 1) (v := .int (st (5 + 2 * j0) 5)) (C := R_T) (T := F_T) (N := 10) hx hb hts in_T hown hK hP (5 + 2 * j0) (cw_k hj0) rfl 5 (by decide) (hts _ k_77) (fun _ h9 => h9) rfl d_T_goesBefore_12 ?_
    refine lv_aload_n hx hb d_T_goesBefore_15 rfl (lv_at hl 1 rfl) ?_
    refine va_get (D := D) (ci := 1) (v := .int (st (5 + 2 * j1) 5)) (C := R_T) (T := F_T) (N := 10) hx hb hts in_T hown hK hP (5 + 2 * j1) (cw_k hj1) rfl 5 (by decide) (hts _ k_77) (fun _ h9 => h9) rfl d_T_goesBefore_16 ?_
    refine lv_icmp_ne (tgt := 37) hx hb d_T_goesBefore_19 (by decide) (fun hc2 => ?_) (fun hc2 => ?_)
    · have he := he.trans (if_neg hc2)
      refine lv_iconst (v := 0) hx hb d_T_goesBefore_37 (by decide) ?_
      exact W.zret (v := 0) hx hb hr (by decide) (fun t ht _ => ⟨by rw [he], ht⟩) (fun _ h => nomatch h) d_T_goesBefore_38
    · have he := he.trans (if_pos hc2)
      refine lv_aload_n hx hb d_T_goesBefore_22 rfl (lv_at hl 0 rfl) ?_
      refine va_get (D := D) (ci := 1) (v := .int (st (5 + 2 * j0) 6)) (C := R_T) (T := F_T) (N := 10) hx hb hts in_T hown hK hP (5 + 2 * j0) (cw_k hj0) rfl 6 (by decide) (hts _ k_79) (fun _ h9 => h9) rfl d_T_goesBefore_23 ?_
      refine lv_aload_n hx hb d_T_goesBefore_26 rfl (lv_at hl 1 rfl) ?_
      refine va_get (D := D) (ci := 1) (v := .int (st (5 + 2 * j1) 6)) (C := R_T) (T := F_T) (N := 10) hx hb hts in_T hown hK hP (5 + 2 * j1) (cw_k hj1) rfl 6 (by decide) (hts _ k_79) (fun _ h9 => h9) rfl d_T_goesBefore_27 ?_
      refine lv_icmp_ge (tgt := 37) hx hb d_T_goesBefore_30 (by decide) (fun hc3 => ?_) (fun hc3 => ?_)
      · have he := he.trans (if_pos hc3)
        refine lv_iconst (v := 0) hx hb d_T_goesBefore_37 (by decide) ?_
        exact W.zret (v := 0) hx hb hr (by decide) (fun t ht _ => ⟨by rw [he], ht⟩) (fun _ h => nomatch h) d_T_goesBefore_38
      · have he := he.trans (if_neg hc3)
        refine lv_iconst (v := 1) hx hb d_T_goesBefore_33 (by decide) ?_
        refine lv_goto (tgt := 38) hx hb d_T_goesBefore_34 (by decide) ?_
        exact W.zret (v := 1) hx hb hr (by decide) (fun t ht _ => ⟨by rw [he], ht⟩) (fun _ h => nomatch h) d_T_goesBefore_38
set_option maxHeartbeats 4000000 in
set_option maxRecDepth 100000 in
theorem c_T_demandIn (l : Launch) (D : va_G) (cI cT cH : ClassId) (ad : Nat → Nat) (st : St) (j0 : Nat) (p1 : Int32) (hj0 : j0 < 8) : Met l y_T_demandIn w_T_demandIn { frames := 1, cells := 0, slots := 0, locals := 20 } (va_Pc [.ref (ad (5 + 2 * j0)), .int p1] (gW D cI cT cH (cw cI cT cH ad st))) (QcRead (f_T_demandIn st j0 p1)) 0 0 (fun _ => False) := by
  refine Met.ofW (cc := b_T_demandIn) (maxL := 2) (ret := (some .int)) (by decide +kernel) rfl ?_
  intro p e s m args below meth c s₁ B hml hv
  obtain ⟨rfl, hP, hK, hN⟩ := hv
  have hx := B.exec
  have hb := B.bytes
  have hr := B.returns
  have hlocks := B.notSynchronized
  have hts0 := atoms_spec (ws := w_T_demandIn) B.pre
  have hts : ∀ w ∈ TT, w.before [.ref (ad (5 + 2 * j0)), .int p1].toArray s = true := fun w h => hts0 w (List.mem_cons_of_mem _ h)
  have hown : s.vm.findClass R_T = some m.cls := findClass_of_methodNamed B.named
  have hl := lv_entry ([.ref (ad (5 + 2 * j0)), .int p1]) (n := 2) (Nat.le_of_ble_eq_true rfl)
  rw [lg_entry_eq]
  generalize (lg_sl ([.ref (ad (5 + 2 * j0)), .int p1]) ++ List.replicate (2 - (lg_sl ([.ref (ad (5 + 2 * j0)), .int p1])).length) Slot.unset).toArray = ls at hl ⊢
  have hl : lv_has ls 2 [(0, .ref (ad (5 + 2 * j0))), (1, .int p1)] := hl
  have he := f_T_demandIn.eq_1 st j0 p1
  refine lv_aload_n hx hb d_T_demandIn_0 rfl (lv_at hl 0 rfl) ?_
  refine rdV (As := []) (rest := []) (na := 0) (c_T_isDeclared l D cI cT cH ad st j0 hj0) ⟨hx, hb, hml, hown, hts⟩ k_224 k_167 k_168 k_26 k_169 (by decide +kernel) (by decide) (by decide) hP hK hN (q0 := (5 + 2 * j0)) (ci := 1) (cw_k hj0) rfl rfl hl.1 rfl (Nat.le_of_ble_eq_true rfl) d_T_demandIn_1 ?_
  refine lv_if_eq (tgt := 28) hx hb d_T_demandIn_4 (by decide) (fun hc1 => ?_) (fun hc1 => ?_)
  · have he := he.trans (if_pos hc1)
    refine lv_iconst (v := 0) hx hb d_T_demandIn_28 (by decide) ?_
    exact W.iret (v := 0) hx hb hr (fun t ht _ => ⟨by rw [he], ht⟩) (fun _ h => nomatch h) d_T_demandIn_29
  · have he := he.trans (if_neg hc1)
    refine lv_aload_n hx hb d_T_demandIn_7 rfl (lv_at hl 0 rfl) ?_
    refine va_get (D := D) (ci := 1) (v := .int (st (5 + 2 * j0) 1)) (C := R_T) (T := F_T) (N := 10) hx hb hts in_T hown hK hP (5 + 2 * j0) (cw_k hj0) rfl 1 (by decide) (hts _ k_69) (fun _ h9 => h9) rfl d_T_demandIn_8 ?_
    refine lv_iload_n hx hb d_T_demandIn_11 rfl (lv_at hl 1 rfl) ?_
    refine lv_aload_n hx hb d_T_demandIn_12 rfl (lv_at hl 0 rfl) ?_
    refine va_get (D := D) (ci := 1) (v := .int (st (5 + 2 * j0) 2)) (C := R_T) (T := F_T) (N := 10) hx hb hts in_T hown hK hP (5 + 2 * j0) (cw_k hj0) rfl 2 (by decide) (hts _ k_71) (fun _ h9 => h9) rfl d_T_demandIn_13 ?_
    refine lv_iadd hx hb d_T_demandIn_16 ?_
    refine lv_iconst (v := 1) hx hb d_T_demandIn_17 (by decide) ?_
    refine lv_isub hx hb d_T_demandIn_18 ?_
    refine lv_aload_n hx hb d_T_demandIn_19 rfl (lv_at hl 0 rfl) ?_
    refine va_get (D := D) (ci := 1) (v := .int (st (5 + 2 * j0) 2)) (C := R_T) (T := F_T) (N := 10) hx hb hts in_T hown hK hP (5 + 2 * j0) (cw_k hj0) rfl 2 (by decide) (hts _ k_71) (fun _ h9 => h9) rfl d_T_demandIn_20 ?_
    refine lv_idiv hx hb d_T_demandIn_23 (by first | with_reducible assumption | exact vi_ne0 (by with_reducible assumption) | exact hy1 _ (by omega) (i32_pos (by with_reducible assumption)) | decide) ?_
    refine lv_imul hx hb d_T_demandIn_24 ?_
    refine lv_goto (tgt := 29) hx hb d_T_demandIn_25 (by decide) ?_
    exact W.iret (v := ((st (5 + 2 * j0) 1) * (((p1 + (st (5 + 2 * j0) 2)) - 1) / (st (5 + 2 * j0) 2)))) hx hb hr (fun t ht _ => ⟨by rw [he], ht⟩) (fun _ h => nomatch h) d_T_demandIn_29
set_option maxHeartbeats 4000000 in
set_option maxRecDepth 100000 in
theorem c_N_write (l : Launch) (D : va_G) (cI cT cH : ClassId) (ad : Nat → Nat) (st : St) (p1 : Int32) (p2 : Int32) (p3 : Int32) (p4 : Int32) (hI : ∀ i j, i < 27 → j < 27 → ad i = ad j → i = j) : Met l y_N_write w_N_write { frames := 1, cells := 0, slots := 0, locals := 22 } (va_Pc [.ref (ad 3), .int p1, .int p2, .int p3, .int p4] (gW D cI cT cH (cw cI cT cH ad st))) (qV D (cw cI cT cH ad (f_N_write st p1 p2 p3 p4)) (inA ad 27)) 0 0 (inA ad 27) := by
  refine Met.ofW (cc := b_N_write) (maxL := 5) (ret := none) (by decide +kernel) rfl ?_
  intro p e s m args below meth c s₁ B hml hv
  obtain ⟨rfl, hP, hK, hN⟩ := hv
  have hx := B.exec
  have hb := B.bytes
  have hr := B.returns
  have hlocks := B.notSynchronized
  have hts0 := atoms_spec (ws := w_N_write) B.pre
  have hts : ∀ w ∈ TT, w.before [.ref (ad 3), .int p1, .int p2, .int p3, .int p4].toArray s = true := fun w h => hts0 w (List.mem_cons_of_mem _ h)
  have hown : s.vm.findClass R_N = some m.cls := findClass_of_methodNamed B.named
  have hS : va_S (inA ad 27) s.heap s.heap [] := va_S.rf
  have hl := lv_entry ([.ref (ad 3), .int p1, .int p2, .int p3, .int p4]) (n := 5) (Nat.le_of_ble_eq_true rfl)
  rw [lg_entry_eq]
  generalize (lg_sl ([.ref (ad 3), .int p1, .int p2, .int p3, .int p4]) ++ List.replicate (5 - (lg_sl ([.ref (ad 3), .int p1, .int p2, .int p3, .int p4])).length) Slot.unset).toArray = ls at hl ⊢
  have hl : lv_has ls 5 [(0, .ref (ad 3)), (1, .int p1), (2, .int p2), (3, .int p3), (4, .int p4)] := hl
  have he := f_N_write.eq_1 st p1 p2 p3 p4
  refine lv_aload_n hx hb d_N_write_0 rfl (lv_at hl 0 rfl) ?_
  refine va_get (D := D) (ci := 3) (v := .ref (ad 4)) (C := R_N) (T := F_N) (N := 2) hx hb hts in_N hown hK hP 3 cw_3 rfl 0 (by decide) (hts _ k_53) (fun _ h9 => h9) rfl d_N_write_1 ?_
  refine lv_aload_n hx hb d_N_write_4 rfl (lv_at hl 0 rfl) ?_
  refine va_get (D := D) (ci := 3) (v := .int (st 3 1)) (C := R_N) (T := F_N) (N := 2) hx hb hts in_N hown hK hP 3 cw_3 rfl 1 (by decide) (hts _ k_54) (fun _ h9 => h9) rfl d_N_write_5 ?_
  refine lv_bipush (v := 40) hx hb d_N_write_8 (by decide) ?_
  refine rdS (As := [.int (st 3 1), .int 40]) (rest := [.ref (ad 4)]) (na := 2) (c_J_floorMod l (st 3 1) 40 (by decide)) ⟨hx, hb, hml, hown, hts⟩ k_237 k_238 k_34 k_239 (by decide +kernel) (by decide) (by decide) rfl hl.1 rfl (Nat.le_of_ble_eq_true rfl) d_N_write_10 ?_
  refine lv_sipush (v := 4096) hx hb d_N_write_13 (by decide) ?_
  refine lv_iload hx hb d_N_write_16 (lv_at hl 4 rfl) ?_
  refine lv_ldc hx hb hown (hts _ k_381) d_N_write_18 ?_
  refine rdS (As := [.int p4, .int 65536]) (rest := [.int 4096, .int (f_J_floorMod (st 3 1) 40), .ref (ad 4)]) (na := 2) (c_J_floorMod l p4 65536 (by decide)) ⟨hx, hb, hml, hown, hts⟩ k_237 k_238 k_34 k_239 (by decide +kernel) (by decide) (by decide) rfl hl.1 rfl (Nat.le_of_ble_eq_true rfl) d_N_write_20 ?_
  refine lv_imul hx hb d_N_write_23 ?_
  refine lv_sipush (v := 256) hx hb d_N_write_24 (by decide) ?_
  refine lv_iload_n hx hb d_N_write_27 rfl (lv_at hl 3 rfl) ?_
  refine lv_imul hx hb d_N_write_28 ?_
  refine lv_iadd hx hb d_N_write_29 ?_
  refine lv_bipush (v := 16) hx hb d_N_write_30 (by decide) ?_
  refine lv_iload_n hx hb d_N_write_32 rfl (lv_at hl 2 rfl) ?_
  refine lv_imul hx hb d_N_write_33 ?_
  refine lv_iadd hx hb d_N_write_34 ?_
  refine lv_iload_n hx hb d_N_write_35 rfl (lv_at hl 1 rfl) ?_
  refine lv_iadd hx hb d_N_write_36 ?_
  have hi1 : vp_in (f_J_floorMod (st 3 1) 40) 40 := (vi_fmod40 _)
  refine va_iast hx hb hK hP (cw_D hI) hS 4 0 cw_4 rfl hi1 d_N_write_37 (fun H locs hP _ hS => ?_)
  rw [cp_4] at hP
  generalize hw3 : wr st 4 (f_J_floorMod (st 3 1) 40).toNatClampNeg ((((4096 * (f_J_floorMod p4 65536)) + (256 * p3)) + (16 * p2)) + p1) = sw2 at hP he
  refine W.eq (g2 := F0 m 38 ls []) rfl ?_
  rw [f_N_write_S38] at he
  refine lv_aload_n hx hb d_N_write_38 rfl (lv_at hl 0 rfl) ?_
  refine lv_dup hx hb d_N_write_39 rfl ?_
  refine va_get (D := D) (ci := 3) (v := .int (sw2 3 1)) (C := R_N) (T := F_N) (N := 2) hx hb hts in_N hown hK hP 3 cw_3 rfl 1 (by decide) (hts _ k_54) (fun _ h9 => h9) rfl d_N_write_40 ?_
  refine lv_iconst (v := 1) hx hb d_N_write_43 (by decide) ?_
  refine lv_iadd hx hb d_N_write_44 ?_
  refine va_put (D := D) (ci := 3) (v := .int ((sw2 3 1) + 1)) (ty := .int) (C := R_N) (T := F_N) (N := 2) hx hb hts in_N ft_N ft_N_ok n_N hown hK hP (cw_D hI) hS 3 cw_3 rfl 1 (by decide) (hts _ k_54) (fun _ h9 => h9) rfl (by decide +kernel) rfl rfl (Nat.le_of_ble_eq_true rfl) d_N_write_45 (fun H locs hP _ hS => ?_)
  rw [cp_3] at hP
  generalize hw5 : wr sw2 3 1 ((sw2 3 1) + 1) = sw4 at hP he
  refine W.eq (g2 := F0 m 48 ls []) rfl ?_
  exact W.vret hx hb hr (fun t ht _ => ⟨⟨(), rfl, trivial, (by rw [he]; show va_P _ _ _ t.heap; rw [ht]; exact hP)⟩, hS.F ht⟩) hS.2.2 d_N_write_48
set_option maxHeartbeats 4000000 in
set_option maxRecDepth 100000 in
theorem c_N_fromLatest (l : Launch) (D : va_G) (cI cT cH : ClassId) (ad : Nat → Nat) (st : St) (p1 : Int32) : Met l y_N_fromLatest w_N_fromLatest { frames := 1, cells := 0, slots := 0, locals := 22 } (va_Pc [.ref (ad 3), .int p1] (gW D cI cT cH (cw cI cT cH ad st))) (QcRead (f_N_fromLatest st p1)) 0 0 (fun _ => False) := by
  refine Met.ofW (cc := b_N_fromLatest) (maxL := 2) (ret := (some .int)) (by decide +kernel) rfl ?_
  intro p e s m args below meth c s₁ B hml hv
  obtain ⟨rfl, hP, hK, hN⟩ := hv
  have hx := B.exec
  have hb := B.bytes
  have hr := B.returns
  have hlocks := B.notSynchronized
  have hts0 := atoms_spec (ws := w_N_fromLatest) B.pre
  have hts : ∀ w ∈ TT, w.before [.ref (ad 3), .int p1].toArray s = true := fun w h => hts0 w (List.mem_cons_of_mem _ h)
  have hown : s.vm.findClass R_N = some m.cls := findClass_of_methodNamed B.named
  have hl := lv_entry ([.ref (ad 3), .int p1]) (n := 2) (Nat.le_of_ble_eq_true rfl)
  rw [lg_entry_eq]
  generalize (lg_sl ([.ref (ad 3), .int p1]) ++ List.replicate (2 - (lg_sl ([.ref (ad 3), .int p1])).length) Slot.unset).toArray = ls at hl ⊢
  have hl : lv_has ls 2 [(0, .ref (ad 3)), (1, .int p1)] := hl
  have he := f_N_fromLatest.eq_1 st p1
  refine lv_iload_n hx hb d_N_fromLatest_0 rfl (lv_at hl 1 rfl) ?_
  refine lv_if_lt (tgt := 18) hx hb d_N_fromLatest_1 (by decide) (fun hc1 => ?_) (fun hc1 => ?_)
  · have he := he.trans (if_pos hc1)
    refine lv_iconst (v := (-1)) hx hb d_N_fromLatest_18 (by decide) ?_
    exact W.iret (v := (-1)) hx hb hr (fun t ht _ => ⟨by rw [he], ht⟩) (fun _ h => nomatch h) d_N_fromLatest_19
  · have he := he.trans (if_neg hc1)
    refine lv_iload_n hx hb d_N_fromLatest_4 rfl (lv_at hl 1 rfl) ?_
    refine lv_bipush (v := 40) hx hb d_N_fromLatest_5 (by decide) ?_
    refine lv_icmp_ge (tgt := 18) hx hb d_N_fromLatest_7 (by decide) (fun hc2 => ?_) (fun hc2 => ?_)
    · have he := he.trans (if_pos hc2)
      refine lv_iconst (v := (-1)) hx hb d_N_fromLatest_18 (by decide) ?_
      exact W.iret (v := (-1)) hx hb hr (fun t ht _ => ⟨by rw [he], ht⟩) (fun _ h => nomatch h) d_N_fromLatest_19
    · have he := he.trans (if_neg hc2)
      refine lv_iload_n hx hb d_N_fromLatest_10 rfl (lv_at hl 1 rfl) ?_
      refine lv_aload_n hx hb d_N_fromLatest_11 rfl (lv_at hl 0 rfl) ?_
      refine va_get (D := D) (ci := 3) (v := .int (st 3 1)) (C := R_N) (T := F_N) (N := 2) hx hb hts in_N hown hK hP 3 cw_3 rfl 1 (by decide) (hts _ k_54) (fun _ h9 => h9) rfl d_N_fromLatest_12 ?_
      refine lv_icmp_lt (tgt := 20) hx hb d_N_fromLatest_15 (by decide) (fun hc3 => ?_) (fun hc3 => ?_)
      · have he := he.trans (if_pos hc3)
        refine lv_aload_n hx hb d_N_fromLatest_20 rfl (lv_at hl 0 rfl) ?_
        refine va_get (D := D) (ci := 3) (v := .ref (ad 4)) (C := R_N) (T := F_N) (N := 2) hx hb hts in_N hown hK hP 3 cw_3 rfl 0 (by decide) (hts _ k_53) (fun _ h9 => h9) rfl d_N_fromLatest_21 ?_
        refine lv_aload_n hx hb d_N_fromLatest_24 rfl (lv_at hl 0 rfl) ?_
        refine va_get (D := D) (ci := 3) (v := .int (st 3 1)) (C := R_N) (T := F_N) (N := 2) hx hb hts in_N hown hK hP 3 cw_3 rfl 1 (by decide) (hts _ k_54) (fun _ h9 => h9) rfl d_N_fromLatest_25 ?_
        refine lv_iconst (v := 1) hx hb d_N_fromLatest_28 (by decide) ?_
        refine lv_isub hx hb d_N_fromLatest_29 ?_
        refine lv_iload_n hx hb d_N_fromLatest_30 rfl (lv_at hl 1 rfl) ?_
        refine lv_isub hx hb d_N_fromLatest_31 ?_
        refine lv_bipush (v := 40) hx hb d_N_fromLatest_32 (by decide) ?_
        refine rdS (As := [.int (((st 3 1) - 1) - p1), .int 40]) (rest := [.ref (ad 4)]) (na := 2) (c_J_floorMod l (((st 3 1) - 1) - p1) 40 (by decide)) ⟨hx, hb, hml, hown, hts⟩ k_237 k_238 k_34 k_239 (by decide +kernel) (by decide) (by decide) rfl hl.1 rfl (Nat.le_of_ble_eq_true rfl) d_N_fromLatest_34 ?_
        have hi4 : vp_in (f_J_floorMod (((st 3 1) - 1) - p1) 40) 40 := (vi_fmod40 _)
        refine va_iald hx hb hK hP 4 0 cw_4 rfl hi4 d_N_fromLatest_37 ?_
        refine W.eq (g2 := F0 m 38 ls [.int (st 4 (f_J_floorMod (((st 3 1) - 1) - p1) 40).toNatClampNeg)]) rfl ?_
        exact W.iret (v := (st 4 (f_J_floorMod (((st 3 1) - 1) - p1) 40).toNatClampNeg)) hx hb hr (fun t ht _ => ⟨by rw [he], ht⟩) (fun _ h => nomatch h) d_N_fromLatest_38
      · have he := he.trans (if_neg hc3)
        refine lv_iconst (v := (-1)) hx hb d_N_fromLatest_18 (by decide) ?_
        exact W.iret (v := (-1)) hx hb hr (fun t ht _ => ⟨by rw [he], ht⟩) (fun _ h => nomatch h) d_N_fromLatest_19
end
section
set_option maxHeartbeats 4000000 in
set_option maxRecDepth 100000 in
theorem c_C_isDeclared (l : Launch) (D : va_G) (cI cT cH : ClassId) (ad : Nat → Nat) (st : St) (p1 : Int32) : Met l y_C_isDeclared w_C_isDeclared { frames := 1, cells := 0, slots := 0, locals := 22 } (va_Pc [.ref (ad 0), .int p1] (gW D cI cT cH (cw cI cT cH ad st))) (QcRead (f_C_isDeclared st p1)) 0 0 (fun _ => False) := by
  refine Met.ofW (cc := b_C_isDeclared) (maxL := 2) (ret := (some .boolean)) (by decide +kernel) rfl ?_
  intro p e s m args below meth c s₁ B hml hv
  obtain ⟨rfl, hP, hK, hN⟩ := hv
  have hx := B.exec
  have hb := B.bytes
  have hr := B.returns
  have hlocks := B.notSynchronized
  have hts0 := atoms_spec (ws := w_C_isDeclared) B.pre
  have hts : ∀ w ∈ TT, w.before [.ref (ad 0), .int p1].toArray s = true := fun w h => hts0 w (List.mem_cons_of_mem _ h)
  have hown : s.vm.findClass R_C = some m.cls := findClass_of_methodNamed B.named
  have hl := lv_entry ([.ref (ad 0), .int p1]) (n := 2) (Nat.le_of_ble_eq_true rfl)
  rw [lg_entry_eq]
  generalize (lg_sl ([.ref (ad 0), .int p1]) ++ List.replicate (2 - (lg_sl ([.ref (ad 0), .int p1])).length) Slot.unset).toArray = ls at hl ⊢
  have hl : lv_has ls 2 [(0, .ref (ad 0)), (1, .int p1)] := hl
  have he := f_C_isDeclared.eq_1 st p1
  refine lv_iload_n hx hb d_C_isDeclared_0 rfl (lv_at hl 1 rfl) ?_
  refine lv_iconst (v := 0) hx hb d_C_isDeclared_1 (by decide) ?_
  refine lv_bipush (v := 7) hx hb d_C_isDeclared_2 (by decide) ?_
  refine rdS (As := [.int p1, .int 0, .int 7]) (rest := []) (na := 3) (c_C_isIn l p1 0 7 ) ⟨hx, hb, hml, hown, hts⟩ k_163 k_164 k_24 k_165 (by decide +kernel) (by decide) (by decide) rfl hl.1 rfl (Nat.le_of_ble_eq_true rfl) d_C_isDeclared_4 ?_
  refine lv_if_eq (tgt := 26) hx hb d_C_isDeclared_7 (by decide) (fun hc1 => ?_) (fun hc1 => ?_)
  · have he := he.trans (if_pos hc1)
    refine lv_iconst (v := 0) hx hb d_C_isDeclared_26 (by decide) ?_
    exact W.zret (v := 0) hx hb hr (by decide) (fun t ht _ => ⟨by rw [he], ht⟩) (fun _ h => nomatch h) d_C_isDeclared_27
  · have he := he.trans (if_neg hc1)
    refine lv_aload_n hx hb d_C_isDeclared_10 rfl (lv_at hl 0 rfl) ?_
    refine va_get (D := D) (ci := 0) (v := .ref (ad 1)) (C := R_C) (T := F_C) (N := 7) hx hb hts in_C hown hK hP 0 cw_0 rfl 0 (by decide) (hts _ k_129) (fun _ h9 => h9) rfl d_C_isDeclared_11 ?_
    refine lv_iload_n hx hb d_C_isDeclared_14 rfl (lv_at hl 1 rfl) ?_
    have hi2 : vp_in p1 8 := (by first | with_reducible assumption | exact vi_isIn7 (by with_reducible assumption) | exact vi_isThing (by with_reducible assumption) | exact vi_decl (by with_reducible assumption) | exact vi_ready (by with_reducible assumption) | exact vi_run (by with_reducible assumption) (by with_reducible assumption) | exact vi_run (by with_reducible assumption) (vi_runner _) | exact vi_mTask (by with_reducible assumption) | exact vi_mThing (by with_reducible assumption) | exact vi_mdecl (by with_reducible assumption) | exact vi_mready (by with_reducible assumption))
    refine va_aldq hx hb hK hP 1 1 cw_1 rfl hi2 d_C_isDeclared_15 ?_
    have hj3 : p1.toNatClampNeg < 8 := vi_lt hi2
    refine W.eq (g2 := F0 m 16 ls [.ref (ad (5 + 2 * p1.toNatClampNeg))]) rfl ?_
    refine rdV (As := []) (rest := []) (na := 0) (c_T_isDeclared l D cI cT cH ad st p1.toNatClampNeg hj3) ⟨hx, hb, hml, hown, hts⟩ k_166 k_167 k_168 k_26 k_169 (by decide +kernel) (by decide) (by decide) hP hK hN (q0 := (5 + 2 * p1.toNatClampNeg)) (ci := 1) (cw_k hj3) rfl rfl hl.1 rfl (Nat.le_of_ble_eq_true rfl) d_C_isDeclared_16 ?_
    refine lv_if_eq (tgt := 26) hx hb d_C_isDeclared_19 (by decide) (fun hc4 => ?_) (fun hc4 => ?_)
    · have he := he.trans (if_pos hc4)
      refine lv_iconst (v := 0) hx hb d_C_isDeclared_26 (by decide) ?_
      exact W.zret (v := 0) hx hb hr (by decide) (fun t ht _ => ⟨by rw [he], ht⟩) (fun _ h => nomatch h) d_C_isDeclared_27
    · have he := he.trans (if_neg hc4)
      refine lv_iconst (v := 1) hx hb d_C_isDeclared_22 (by decide) ?_
      refine lv_goto (tgt := 27) hx hb d_C_isDeclared_23 (by decide) ?_
      exact W.zret (v := 1) hx hb hr (by decide) (fun t ht _ => ⟨by rw [he], ht⟩) (fun _ h => nomatch h) d_C_isDeclared_27
set_option maxHeartbeats 4000000 in
set_option maxRecDepth 100000 in
theorem c_C_isReady (l : Launch) (D : va_G) (cI cT cH : ClassId) (ad : Nat → Nat) (st : St) (p1 : Int32) : Met l y_C_isReady w_C_isReady { frames := 1, cells := 0, slots := 0, locals := 22 } (va_Pc [.ref (ad 0), .int p1] (gW D cI cT cH (cw cI cT cH ad st))) (QcRead (f_C_isReady st p1)) 0 0 (fun _ => False) := by
  refine Met.ofW (cc := b_C_isReady) (maxL := 2) (ret := (some .boolean)) (by decide +kernel) rfl ?_
  intro p e s m args below meth c s₁ B hml hv
  obtain ⟨rfl, hP, hK, hN⟩ := hv
  have hx := B.exec
  have hb := B.bytes
  have hr := B.returns
  have hlocks := B.notSynchronized
  have hts0 := atoms_spec (ws := w_C_isReady) B.pre
  have hts : ∀ w ∈ TT, w.before [.ref (ad 0), .int p1].toArray s = true := fun w h => hts0 w (List.mem_cons_of_mem _ h)
  have hown : s.vm.findClass R_C = some m.cls := findClass_of_methodNamed B.named
  have hl := lv_entry ([.ref (ad 0), .int p1]) (n := 2) (Nat.le_of_ble_eq_true rfl)
  rw [lg_entry_eq]
  generalize (lg_sl ([.ref (ad 0), .int p1]) ++ List.replicate (2 - (lg_sl ([.ref (ad 0), .int p1])).length) Slot.unset).toArray = ls at hl ⊢
  have hl : lv_has ls 2 [(0, .ref (ad 0)), (1, .int p1)] := hl
  have he := f_C_isReady.eq_1 st p1
  refine lv_iload_n hx hb d_C_isReady_0 rfl (lv_at hl 1 rfl) ?_
  refine lv_iconst (v := 0) hx hb d_C_isReady_1 (by decide) ?_
  refine lv_bipush (v := 7) hx hb d_C_isReady_2 (by decide) ?_
  refine rdS (As := [.int p1, .int 0, .int 7]) (rest := []) (na := 3) (c_C_isIn l p1 0 7 ) ⟨hx, hb, hml, hown, hts⟩ k_163 k_164 k_24 k_165 (by decide +kernel) (by decide) (by decide) rfl hl.1 rfl (Nat.le_of_ble_eq_true rfl) d_C_isReady_4 ?_
  refine lv_if_eq (tgt := 26) hx hb d_C_isReady_7 (by decide) (fun hc1 => ?_) (fun hc1 => ?_)
  · have he := he.trans (if_pos hc1)
    refine lv_iconst (v := 0) hx hb d_C_isReady_26 (by decide) ?_
    exact W.zret (v := 0) hx hb hr (by decide) (fun t ht _ => ⟨by rw [he], ht⟩) (fun _ h => nomatch h) d_C_isReady_27
  · have he := he.trans (if_neg hc1)
    refine lv_aload_n hx hb d_C_isReady_10 rfl (lv_at hl 0 rfl) ?_
    refine va_get (D := D) (ci := 0) (v := .ref (ad 1)) (C := R_C) (T := F_C) (N := 7) hx hb hts in_C hown hK hP 0 cw_0 rfl 0 (by decide) (hts _ k_129) (fun _ h9 => h9) rfl d_C_isReady_11 ?_
    refine lv_iload_n hx hb d_C_isReady_14 rfl (lv_at hl 1 rfl) ?_
    have hi2 : vp_in p1 8 := (by first | with_reducible assumption | exact vi_isIn7 (by with_reducible assumption) | exact vi_isThing (by with_reducible assumption) | exact vi_decl (by with_reducible assumption) | exact vi_ready (by with_reducible assumption) | exact vi_run (by with_reducible assumption) (by with_reducible assumption) | exact vi_run (by with_reducible assumption) (vi_runner _) | exact vi_mTask (by with_reducible assumption) | exact vi_mThing (by with_reducible assumption) | exact vi_mdecl (by with_reducible assumption) | exact vi_mready (by with_reducible assumption))
    refine va_aldq hx hb hK hP 1 1 cw_1 rfl hi2 d_C_isReady_15 ?_
    have hj3 : p1.toNatClampNeg < 8 := vi_lt hi2
    refine W.eq (g2 := F0 m 16 ls [.ref (ad (5 + 2 * p1.toNatClampNeg))]) rfl ?_
    refine va_getN (D := D) (ci := 1) (v := .int (st (5 + 2 * p1.toNatClampNeg) 4)) (C := R_T) (T := F_T) (N := 10) hx hb hts in_T hown hK hP (5 + 2 * p1.toNatClampNeg) (cw_k hj3) rfl 4 (by decide) (va_Nw.use rfl (hN _ nk_C_146)) (fun _ h9 => h9) rfl d_C_isReady_16 ?_
    refine lv_if_eq (tgt := 26) hx hb d_C_isReady_19 (by decide) (fun hc4 => ?_) (fun hc4 => ?_)
    · have he := he.trans (if_pos hc4)
      refine lv_iconst (v := 0) hx hb d_C_isReady_26 (by decide) ?_
      exact W.zret (v := 0) hx hb hr (by decide) (fun t ht _ => ⟨by rw [he], ht⟩) (fun _ h => nomatch h) d_C_isReady_27
    · have he := he.trans (if_neg hc4)
      refine lv_iconst (v := 1) hx hb d_C_isReady_22 (by decide) ?_
      refine lv_goto (tgt := 27) hx hb d_C_isReady_23 (by decide) ?_
      exact W.zret (v := 1) hx hb hr (by decide) (fun t ht _ => ⟨by rw [he], ht⟩) (fun _ h => nomatch h) d_C_isReady_27
set_option maxHeartbeats 4000000 in
set_option maxRecDepth 100000 in
theorem c_C_isHeld (l : Launch) (D : va_G) (cI cT cH : ClassId) (ad : Nat → Nat) (st : St) (p1 : Int32) : Met l y_C_isHeld w_C_isHeld { frames := 2, cells := 0, slots := 0, locals := 42 } (va_Pc [.ref (ad 0), .int p1] (gW D cI cT cH (cw cI cT cH ad st))) (QcRead (f_C_isHeld st p1)) 0 0 (fun _ => False) := by
  refine Met.ofW (cc := b_C_isHeld) (maxL := 2) (ret := (some .boolean)) (by decide +kernel) rfl ?_
  intro p e s m args below meth c s₁ B hml hv
  obtain ⟨rfl, hP, hK, hN⟩ := hv
  have hx := B.exec
  have hb := B.bytes
  have hr := B.returns
  have hlocks := B.notSynchronized
  have hts0 := atoms_spec (ws := w_C_isHeld) B.pre
  have hts : ∀ w ∈ TT, w.before [.ref (ad 0), .int p1].toArray s = true := fun w h => hts0 w (List.mem_cons_of_mem _ h)
  have hown : s.vm.findClass R_C = some m.cls := findClass_of_methodNamed B.named
  have hl := lv_entry ([.ref (ad 0), .int p1]) (n := 2) (Nat.le_of_ble_eq_true rfl)
  rw [lg_entry_eq]
  generalize (lg_sl ([.ref (ad 0), .int p1]) ++ List.replicate (2 - (lg_sl ([.ref (ad 0), .int p1])).length) Slot.unset).toArray = ls at hl ⊢
  have hl : lv_has ls 2 [(0, .ref (ad 0)), (1, .int p1)] := hl
  have he := f_C_isHeld.eq_1 st p1
  refine lv_iload_n hx hb d_C_isHeld_0 rfl (lv_at hl 1 rfl) ?_
  refine rdS (As := [.int p1]) (rest := []) (na := 1) (c_C_isThing l p1 ) ⟨hx, hb, hml, hown, hts⟩ k_186 k_187 k_24 k_188 (by decide +kernel) (by decide) (by decide) rfl hl.1 rfl (Nat.le_of_ble_eq_true rfl) d_C_isHeld_1 ?_
  refine lv_if_eq (tgt := 24) hx hb d_C_isHeld_4 (by decide) (fun hc1 => ?_) (fun hc1 => ?_)
  · have he := he.trans (if_pos hc1)
    refine lv_iconst (v := 0) hx hb d_C_isHeld_24 (by decide) ?_
    exact W.zret (v := 0) hx hb hr (by decide) (fun t ht _ => ⟨by rw [he], ht⟩) (fun _ h => nomatch h) d_C_isHeld_25
  · have he := he.trans (if_neg hc1)
    refine lv_aload_n hx hb d_C_isHeld_7 rfl (lv_at hl 0 rfl) ?_
    refine va_get (D := D) (ci := 0) (v := .ref (ad 2)) (C := R_C) (T := F_C) (N := 7) hx hb hts in_C hown hK hP 0 cw_0 rfl 1 (by decide) (hts _ k_130) (fun _ h9 => h9) rfl d_C_isHeld_8 ?_
    refine lv_iload_n hx hb d_C_isHeld_11 rfl (lv_at hl 1 rfl) ?_
    have hi2 : vp_in p1 6 := (by first | with_reducible assumption | exact vi_isIn7 (by with_reducible assumption) | exact vi_isThing (by with_reducible assumption) | exact vi_decl (by with_reducible assumption) | exact vi_ready (by with_reducible assumption) | exact vi_run (by with_reducible assumption) (by with_reducible assumption) | exact vi_run (by with_reducible assumption) (vi_runner _) | exact vi_mTask (by with_reducible assumption) | exact vi_mThing (by with_reducible assumption) | exact vi_mdecl (by with_reducible assumption) | exact vi_mready (by with_reducible assumption))
    refine va_aldq hx hb hK hP 2 2 cw_2 rfl hi2 d_C_isHeld_12 ?_
    have hj3 : p1.toNatClampNeg < 6 := vi_lt hi2
    refine W.eq (g2 := F0 m 13 ls [.ref (ad (21 + p1.toNatClampNeg))]) rfl ?_
    refine va_getN (D := D) (ci := 2) (v := .int (st (21 + p1.toNatClampNeg) 1)) (C := R_H) (T := F_H) (N := 4) hx hb hts in_H hown hK hP (21 + p1.toNatClampNeg) (cw_h hj3) rfl 1 (by decide) (va_Nw.use rfl (hN _ nk_C_119)) (fun _ h9 => h9) rfl d_C_isHeld_13 ?_
    refine lv_iconst (v := (-1)) hx hb d_C_isHeld_16 (by decide) ?_
    refine lv_icmp_eq (tgt := 24) hx hb d_C_isHeld_17 (by decide) (fun hc4 => ?_) (fun hc4 => ?_)
    · have he := he.trans (if_pos hc4)
      refine lv_iconst (v := 0) hx hb d_C_isHeld_24 (by decide) ?_
      exact W.zret (v := 0) hx hb hr (by decide) (fun t ht _ => ⟨by rw [he], ht⟩) (fun _ h => nomatch h) d_C_isHeld_25
    · have he := he.trans (if_neg hc4)
      refine lv_iconst (v := 1) hx hb d_C_isHeld_20 (by decide) ?_
      refine lv_goto (tgt := 25) hx hb d_C_isHeld_21 (by decide) ?_
      exact W.zret (v := 1) hx hb hr (by decide) (fun t ht _ => ⟨by rw [he], ht⟩) (fun _ h => nomatch h) d_C_isHeld_25
set_option maxHeartbeats 4000000 in
set_option maxRecDepth 100000 in
theorem c_C_countDeclared (l : Launch) (D : va_G) (cI cT cH : ClassId) (ad : Nat → Nat) (st : St) : Met l y_C_countDeclared w_C_countDeclared { frames := 1, cells := 0, slots := 0, locals := 20 } (va_Pc [.ref (ad 0)] (gW D cI cT cH (cw cI cT cH ad st))) (QcRead (f_C_countDeclared st)) 0 0 (fun _ => False) := by
  refine Met.ofW (cc := b_C_countDeclared) (maxL := 3) (ret := (some .int)) (by decide +kernel) rfl ?_
  intro p e s m args below meth c s₁ B hml hv
  obtain ⟨rfl, hP, hK, hN⟩ := hv
  have hx := B.exec
  have hb := B.bytes
  have hr := B.returns
  have hlocks := B.notSynchronized
  have hts0 := atoms_spec (ws := w_C_countDeclared) B.pre
  have hts : ∀ w ∈ TT, w.before [.ref (ad 0)].toArray s = true := fun w h => hts0 w (List.mem_cons_of_mem _ h)
  have hown : s.vm.findClass R_C = some m.cls := findClass_of_methodNamed B.named
  have hl := lv_entry ([.ref (ad 0)]) (n := 3) (Nat.le_of_ble_eq_true rfl)
  rw [lg_entry_eq]
  generalize (lg_sl ([.ref (ad 0)]) ++ List.replicate (3 - (lg_sl ([.ref (ad 0)])).length) Slot.unset).toArray = ls at hl ⊢
  have hl : lv_has ls 3 [(0, .ref (ad 0))] := hl
  have L4 : ∀ (n i : Nat) (v1 : Int32) (ls : Array Slot), i + n = 8 → lv_has ls 3 [(0, .ref (ad 0)), (1, .int v1), (2, .int (nI i))] → f_C_countDeclared st = f_C_countDeclared_L4 n i st v1 → W p l e (headSpec w_C_countDeclared { frames := 1, cells := 0, slots := 0, locals := 20 }).room s m [.ref (ad 0)].toArray below meth c s.heap [] 0 0 (MQ below (QcRead (f_C_countDeclared st)) [.ref (ad 0)].toArray s 0 0 (fun _ => False)) (F0 m 4 ls []) := by
    intro n
    induction n with
    | zero =>
      intro i v1 ls hcnt hl he
      have hz : i = 8 := by omega
      subst hz
      rw [f_C_countDeclared_L4] at he
      refine lv_iload_n hx hb d_C_countDeclared_4 rfl (lv_at hl 2 rfl) ?_
      refine lv_bipush (v := 8) hx hb d_C_countDeclared_5 (by decide) ?_
      refine lv_icmp_ge (tgt := 31) hx hb d_C_countDeclared_7 (by decide) (fun _ => ?_) (fun h9 => absurd (by decide) h9)
      refine lv_iload_n hx hb d_C_countDeclared_31 rfl (lv_at hl 1 rfl) ?_
      exact W.iret (v := v1) hx hb hr (fun t ht _ => ⟨by rw [he], ht⟩) (fun _ h => nomatch h) d_C_countDeclared_32
    | succ n ih =>
      intro i v1 ls hcnt hl he
      have hi8 : i < 8 := by omega
      rw [f_C_countDeclared_L4] at he
      refine lv_iload_n hx hb d_C_countDeclared_4 rfl (lv_at hl 2 rfl) ?_
      refine lv_bipush (v := 8) hx hb d_C_countDeclared_5 (by decide) ?_
      refine lv_icmp_ge (tgt := 31) hx hb d_C_countDeclared_7 (by decide) (fun h9 => absurd h9 (nlt_8 hi8)) (fun _ => ?_)
      refine lv_aload_n hx hb d_C_countDeclared_10 rfl (lv_at hl 0 rfl) ?_
      refine va_get (D := D) (ci := 0) (v := .ref (ad 1)) (C := R_C) (T := F_C) (N := 7) hx hb hts in_C hown hK hP 0 cw_0 rfl 0 (by decide) (hts _ k_129) (fun _ h9 => h9) rfl d_C_countDeclared_11 ?_
      refine lv_iload_n hx hb d_C_countDeclared_14 rfl (lv_at hl 2 rfl) ?_
      have hi1 : vp_in (nI i) 8 := (vp_in_nI (by omega) (by decide))
      refine va_aldq hx hb hK hP 1 1 cw_1 rfl hi1 d_C_countDeclared_15 ?_
      have hj2 : (nI i).toNatClampNeg < 8 := vi_lt hi1
      rw [show (nI i).toNatClampNeg = i from nI_clamp (by omega)]
      rw [show (nI i).toNatClampNeg = i from nI_clamp (by omega)] at hj2
      refine W.eq (g2 := F0 m 16 ls [.ref (ad (5 + 2 * i))]) rfl ?_
      refine rdV (As := []) (rest := []) (na := 0) (c_T_isDeclared l D cI cT cH ad st i hj2) ⟨hx, hb, hml, hown, hts⟩ k_166 k_167 k_168 k_26 k_169 (by decide +kernel) (by decide) (by decide) hP hK hN (q0 := (5 + 2 * i)) (ci := 1) (cw_k hj2) rfl rfl hl.1 rfl (Nat.le_of_ble_eq_true rfl) d_C_countDeclared_16 ?_
      refine lv_if_eq (tgt := 25) hx hb d_C_countDeclared_19 (by decide) (fun hc3 => ?_) (fun hc3 => ?_)
      · have he := he.trans (if_pos hc3)
        refine lv_iinc (k := 2) (v := (nI (i + 1))) hx hb d_C_countDeclared_25 hl rfl (by first | rfl | (rw [nI_succ]; rfl)) (by decide) rfl (fun ls hl => ?_)
        have hl : lv_has ls 3 [(2, .int (nI (i + 1))), (0, .ref (ad 0)), (1, .int v1)] := hl
        refine lv_goto (tgt := 4) hx hb d_C_countDeclared_28 (by decide) ?_
        exact ih (i + 1) v1 ls (by omega) (lv_sub hl [1, 2, 0] rfl) he
      · have he := he.trans (if_neg hc3)
        refine lv_iinc (k := 1) (v := (v1 + 1)) hx hb d_C_countDeclared_22 hl rfl (by first | rfl | (rw [nI_succ]; rfl)) (by decide) rfl (fun ls hl => ?_)
        have hl : lv_has ls 3 [(1, .int (v1 + 1)), (0, .ref (ad 0)), (2, .int (nI i))] := hl
        refine lv_iinc (k := 2) (v := (nI (i + 1))) hx hb d_C_countDeclared_25 hl rfl (by first | rfl | (rw [nI_succ]; rfl)) (by decide) rfl (fun ls hl => ?_)
        have hl : lv_has ls 3 [(2, .int (nI (i + 1))), (1, .int (v1 + 1)), (0, .ref (ad 0))] := hl
        refine lv_goto (tgt := 4) hx hb d_C_countDeclared_28 (by decide) ?_
        exact ih (i + 1) (v1 + 1) ls (by omega) (lv_sub hl [2, 1, 0] rfl) he
  have he := f_C_countDeclared.eq_1 st
  refine lv_iconst (v := 0) hx hb d_C_countDeclared_0 (by decide) ?_
  refine lv_istore_n hx hb d_C_countDeclared_1 rfl hl (by decide) rfl (fun ls hl => ?_)
  have hl : lv_has ls 3 [(1, .int 0), (0, .ref (ad 0))] := hl
  refine lv_iconst (v := 0) hx hb d_C_countDeclared_2 (by decide) ?_
  refine lv_istore_n hx hb d_C_countDeclared_3 rfl hl (by decide) rfl (fun ls hl => ?_)
  have hl : lv_has ls 3 [(2, .int 0), (1, .int 0), (0, .ref (ad 0))] := hl
  exact L4 8 0 0 ls (by first | decide | omega) (lv_sub hl [2, 1, 0] rfl) he
set_option maxHeartbeats 4000000 in
set_option maxRecDepth 100000 in
theorem c_C_greatestBaseOfUsers (l : Launch) (D : va_G) (cI cT cH : ClassId) (ad : Nat → Nat) (st : St) (p1 : Int32) (hy0 : vp_in p1 6) : Met l y_C_greatestBaseOfUsers w_C_greatestBaseOfUsers { frames := 1, cells := 0, slots := 0, locals := 21 } (va_Pc [.ref (ad 0), .int p1] (gW D cI cT cH (cw cI cT cH ad st))) (QcRead (f_C_greatestBaseOfUsers st p1)) 0 0 (fun _ => False) := by
  refine Met.ofW (cc := b_C_greatestBaseOfUsers) (maxL := 4) (ret := (some .int)) (by decide +kernel) rfl ?_
  intro p e s m args below meth c s₁ B hml hv
  obtain ⟨rfl, hP, hK, hN⟩ := hv
  have hx := B.exec
  have hb := B.bytes
  have hr := B.returns
  have hlocks := B.notSynchronized
  have hts0 := atoms_spec (ws := w_C_greatestBaseOfUsers) B.pre
  have hts : ∀ w ∈ TT, w.before [.ref (ad 0), .int p1].toArray s = true := fun w h => hts0 w (List.mem_cons_of_mem _ h)
  have hown : s.vm.findClass R_C = some m.cls := findClass_of_methodNamed B.named
  have hl := lv_entry ([.ref (ad 0), .int p1]) (n := 4) (Nat.le_of_ble_eq_true rfl)
  rw [lg_entry_eq]
  generalize (lg_sl ([.ref (ad 0), .int p1]) ++ List.replicate (4 - (lg_sl ([.ref (ad 0), .int p1])).length) Slot.unset).toArray = ls at hl ⊢
  have hl : lv_has ls 4 [(0, .ref (ad 0)), (1, .int p1)] := hl
  have L4 : ∀ (n i : Nat) (v2 : Int32) (ls : Array Slot), i + n = 8 → lv_has ls 4 [(0, .ref (ad 0)), (1, .int p1), (2, .int v2), (3, .int (nI i))] → f_C_greatestBaseOfUsers st p1 = f_C_greatestBaseOfUsers_L4 n i st p1 v2 → W p l e (headSpec w_C_greatestBaseOfUsers { frames := 1, cells := 0, slots := 0, locals := 21 }).room s m [.ref (ad 0), .int p1].toArray below meth c s.heap [] 0 0 (MQ below (QcRead (f_C_greatestBaseOfUsers st p1)) [.ref (ad 0), .int p1].toArray s 0 0 (fun _ => False)) (F0 m 4 ls []) := by
    intro n
    induction n with
    | zero =>
      intro i v2 ls hcnt hl he
      have hz : i = 8 := by omega
      subst hz
      rw [f_C_greatestBaseOfUsers_L4] at he
      refine lv_iload_n hx hb d_C_greatestBaseOfUsers_4 rfl (lv_at hl 3 rfl) ?_
      refine lv_bipush (v := 8) hx hb d_C_greatestBaseOfUsers_5 (by decide) ?_
      refine lv_icmp_ge (tgt := 43) hx hb d_C_greatestBaseOfUsers_7 (by decide) (fun _ => ?_) (fun h9 => absurd (by decide) h9)
      refine lv_iload_n hx hb d_C_greatestBaseOfUsers_43 rfl (lv_at hl 2 rfl) ?_
      exact W.iret (v := v2) hx hb hr (fun t ht _ => ⟨by rw [he], ht⟩) (fun _ h => nomatch h) d_C_greatestBaseOfUsers_44
    | succ n ih =>
      intro i v2 ls hcnt hl he
      have hi8 : i < 8 := by omega
      rw [f_C_greatestBaseOfUsers_L4] at he
      refine lv_iload_n hx hb d_C_greatestBaseOfUsers_4 rfl (lv_at hl 3 rfl) ?_
      refine lv_bipush (v := 8) hx hb d_C_greatestBaseOfUsers_5 (by decide) ?_
      refine lv_icmp_ge (tgt := 43) hx hb d_C_greatestBaseOfUsers_7 (by decide) (fun h9 => absurd h9 (nlt_8 hi8)) (fun _ => ?_)
      refine lv_aload_n hx hb d_C_greatestBaseOfUsers_10 rfl (lv_at hl 0 rfl) ?_
      refine va_get (D := D) (ci := 0) (v := .ref (ad 1)) (C := R_C) (T := F_C) (N := 7) hx hb hts in_C hown hK hP 0 cw_0 rfl 0 (by decide) (hts _ k_129) (fun _ h9 => h9) rfl d_C_greatestBaseOfUsers_11 ?_
      refine lv_iload_n hx hb d_C_greatestBaseOfUsers_14 rfl (lv_at hl 3 rfl) ?_
      have hi1 : vp_in (nI i) 8 := (vp_in_nI (by omega) (by decide))
      refine va_aldq hx hb hK hP 1 1 cw_1 rfl hi1 d_C_greatestBaseOfUsers_15 ?_
      have hj2 : (nI i).toNatClampNeg < 8 := vi_lt hi1
      rw [show (nI i).toNatClampNeg = i from nI_clamp (by omega)]
      rw [show (nI i).toNatClampNeg = i from nI_clamp (by omega)] at hj2
      refine W.eq (g2 := F0 m 16 ls [.ref (ad (5 + 2 * i))]) rfl ?_
      refine lv_iload_n hx hb d_C_greatestBaseOfUsers_16 rfl (lv_at hl 1 rfl) ?_
      refine rdV (As := [.int p1]) (rest := []) (na := 1) (c_T_isUserOf l D cI cT cH ad st i p1 hj2 (by first | with_reducible assumption | exact vi_isIn7 (by with_reducible assumption) | exact vi_isThing (by with_reducible assumption) | exact vi_decl (by with_reducible assumption) | exact vi_ready (by with_reducible assumption) | exact vi_run (by with_reducible assumption) (by with_reducible assumption) | exact vi_run (by with_reducible assumption) (vi_runner _) | exact vi_mTask (by with_reducible assumption) | exact vi_mThing (by with_reducible assumption) | exact vi_mdecl (by with_reducible assumption) | exact vi_mready (by with_reducible assumption))) ⟨hx, hb, hml, hown, hts⟩ k_352 k_353 k_354 k_26 k_355 (by decide +kernel) (by decide) (by decide) hP hK hN (q0 := (5 + 2 * i)) (ci := 1) (cw_k hj2) rfl rfl hl.1 rfl (Nat.le_of_ble_eq_true rfl) d_C_greatestBaseOfUsers_17 ?_
      refine lv_if_eq (tgt := 37) hx hb d_C_greatestBaseOfUsers_20 (by decide) (fun hc3 => ?_) (fun hc3 => ?_)
      · have he := he.trans (if_pos hc3)
        refine lv_iinc (k := 3) (v := (nI (i + 1))) hx hb d_C_greatestBaseOfUsers_37 hl rfl (by first | rfl | (rw [nI_succ]; rfl)) (by decide) rfl (fun ls hl => ?_)
        have hl : lv_has ls 4 [(3, .int (nI (i + 1))), (0, .ref (ad 0)), (1, .int p1), (2, .int v2)] := hl
        refine lv_goto (tgt := 4) hx hb d_C_greatestBaseOfUsers_40 (by decide) ?_
        exact ih (i + 1) v2 ls (by omega) (lv_sub hl [1, 2, 3, 0] rfl) he
      · have he := he.trans (if_neg hc3)
        refine lv_iload_n hx hb d_C_greatestBaseOfUsers_23 rfl (lv_at hl 2 rfl) ?_
        refine lv_aload_n hx hb d_C_greatestBaseOfUsers_24 rfl (lv_at hl 0 rfl) ?_
        refine va_get (D := D) (ci := 0) (v := .ref (ad 1)) (C := R_C) (T := F_C) (N := 7) hx hb hts in_C hown hK hP 0 cw_0 rfl 0 (by decide) (hts _ k_129) (fun _ h9 => h9) rfl d_C_greatestBaseOfUsers_25 ?_
        refine lv_iload_n hx hb d_C_greatestBaseOfUsers_28 rfl (lv_at hl 3 rfl) ?_
        have hi4 : vp_in (nI i) 8 := (vp_in_nI (by omega) (by decide))
        refine va_aldq hx hb hK hP 1 1 cw_1 rfl hi4 d_C_greatestBaseOfUsers_29 ?_
        have hj5 : (nI i).toNatClampNeg < 8 := vi_lt hi4
        rw [show (nI i).toNatClampNeg = i from nI_clamp (by omega)]
        rw [show (nI i).toNatClampNeg = i from nI_clamp (by omega)] at hj5
        refine W.eq (g2 := F0 m 30 ls [.ref (ad (5 + 2 * i)), .int v2]) rfl ?_
        refine va_getN (D := D) (ci := 1) (v := .int (st (5 + 2 * i) 0)) (C := R_T) (T := F_T) (N := 10) hx hb hts in_T hown hK hP (5 + 2 * i) (cw_k hj5) rfl 0 (by decide) (va_Nw.use rfl (hN _ nk_C_64)) (fun _ h9 => h9) rfl d_C_greatestBaseOfUsers_30 ?_
        refine va_mmax hx hb (hml.trans hl.1.symm) hown (hts _ k_209) (hts _ k_210) (hts _ k_34) (hts _ k_211) (Nat.le_of_ble_eq_true rfl) (Nat.le_of_ble_eq_true rfl) (Nat.le_of_ble_eq_true rfl) (Nat.le_of_ble_eq_true rfl) d_C_greatestBaseOfUsers_33 ?_
        refine W.eq (g2 := F0 m 36 ls [.int (imax v2 (st (5 + 2 * i) 0))]) rfl ?_
        refine lv_istore_n hx hb d_C_greatestBaseOfUsers_36 rfl hl (by decide) rfl (fun ls hl => ?_)
        have hl : lv_has ls 4 [(2, .int (imax v2 (st (5 + 2 * i) 0))), (0, .ref (ad 0)), (1, .int p1), (3, .int (nI i))] := hl
        refine lv_iinc (k := 3) (v := (nI (i + 1))) hx hb d_C_greatestBaseOfUsers_37 hl rfl (by first | rfl | (rw [nI_succ]; rfl)) (by decide) rfl (fun ls hl => ?_)
        have hl : lv_has ls 4 [(3, .int (nI (i + 1))), (2, .int (imax v2 (st (5 + 2 * i) 0))), (0, .ref (ad 0)), (1, .int p1)] := hl
        refine lv_goto (tgt := 4) hx hb d_C_greatestBaseOfUsers_40 (by decide) ?_
        exact ih (i + 1) (imax v2 (st (5 + 2 * i) 0)) ls (by omega) (lv_sub hl [2, 3, 1, 0] rfl) he
  have he := f_C_greatestBaseOfUsers.eq_1 st p1
  refine lv_iconst (v := 0) hx hb d_C_greatestBaseOfUsers_0 (by decide) ?_
  refine lv_istore_n hx hb d_C_greatestBaseOfUsers_1 rfl hl (by decide) rfl (fun ls hl => ?_)
  have hl : lv_has ls 4 [(2, .int 0), (0, .ref (ad 0)), (1, .int p1)] := hl
  refine lv_iconst (v := 0) hx hb d_C_greatestBaseOfUsers_2 (by decide) ?_
  refine lv_istore_n hx hb d_C_greatestBaseOfUsers_3 rfl hl (by decide) rfl (fun ls hl => ?_)
  have hl : lv_has ls 4 [(3, .int 0), (2, .int 0), (0, .ref (ad 0)), (1, .int p1)] := hl
  exact L4 8 0 0 ls (by first | decide | omega) (lv_sub hl [2, 3, 1, 0] rfl) he
set_option maxHeartbeats 4000000 in
set_option maxRecDepth 100000 in
theorem c_C_mostUrgent (l : Launch) (D : va_G) (cI cT cH : ClassId) (ad : Nat → Nat) (st : St) : Met l y_C_mostUrgent w_C_mostUrgent { frames := 1, cells := 0, slots := 0, locals := 21 } (va_Pc [.ref (ad 0)] (gW D cI cT cH (cw cI cT cH ad st))) (QcRead (f_C_mostUrgent st)) 0 0 (fun _ => False) := by
  refine Met.ofW (cc := b_C_mostUrgent) (maxL := 3) (ret := (some .int)) (by decide +kernel) rfl ?_
  intro p e s m args below meth c s₁ B hml hv
  obtain ⟨rfl, hP, hK, hN⟩ := hv
  have hx := B.exec
  have hb := B.bytes
  have hr := B.returns
  have hlocks := B.notSynchronized
  have hts0 := atoms_spec (ws := w_C_mostUrgent) B.pre
  have hts : ∀ w ∈ TT, w.before [.ref (ad 0)].toArray s = true := fun w h => hts0 w (List.mem_cons_of_mem _ h)
  have hown : s.vm.findClass R_C = some m.cls := findClass_of_methodNamed B.named
  have hl := lv_entry ([.ref (ad 0)]) (n := 3) (Nat.le_of_ble_eq_true rfl)
  rw [lg_entry_eq]
  generalize (lg_sl ([.ref (ad 0)]) ++ List.replicate (3 - (lg_sl ([.ref (ad 0)])).length) Slot.unset).toArray = ls at hl ⊢
  have hl : lv_has ls 3 [(0, .ref (ad 0))] := hl
  have L4 : ∀ (n i : Nat) (v1 : Int32) (ls : Array Slot), i + n = 8 → lv_has ls 3 [(0, .ref (ad 0)), (1, .int v1), (2, .int (nI i))] → (v1 = (-1) ∨ vp_in v1 8) → f_C_mostUrgent st = f_C_mostUrgent_L4 n i st v1 → W p l e (headSpec w_C_mostUrgent { frames := 1, cells := 0, slots := 0, locals := 21 }).room s m [.ref (ad 0)].toArray below meth c s.heap [] 0 0 (MQ below (QcRead (f_C_mostUrgent st)) [.ref (ad 0)].toArray s 0 0 (fun _ => False)) (F0 m 4 ls []) := by
    intro n
    induction n with
    | zero =>
      intro i v1 ls hcnt hl g0 he
      have hz : i = 8 := by omega
      subst hz
      rw [f_C_mostUrgent_L4] at he
      refine lv_iload_n hx hb d_C_mostUrgent_4 rfl (lv_at hl 2 rfl) ?_
      refine lv_bipush (v := 8) hx hb d_C_mostUrgent_5 (by decide) ?_
      refine lv_icmp_ge (tgt := 53) hx hb d_C_mostUrgent_7 (by decide) (fun _ => ?_) (fun h9 => absurd (by decide) h9)
      refine lv_iload_n hx hb d_C_mostUrgent_53 rfl (lv_at hl 1 rfl) ?_
      exact W.iret (v := v1) hx hb hr (fun t ht _ => ⟨by rw [he], ht⟩) (fun _ h => nomatch h) d_C_mostUrgent_54
    | succ n ih =>
      intro i v1 ls hcnt hl g0 he
      have hi8 : i < 8 := by omega
      rw [f_C_mostUrgent_L4] at he
      refine lv_iload_n hx hb d_C_mostUrgent_4 rfl (lv_at hl 2 rfl) ?_
      refine lv_bipush (v := 8) hx hb d_C_mostUrgent_5 (by decide) ?_
      refine lv_icmp_ge (tgt := 53) hx hb d_C_mostUrgent_7 (by decide) (fun h9 => absurd h9 (nlt_8 hi8)) (fun _ => ?_)
      refine lv_aload_n hx hb d_C_mostUrgent_10 rfl (lv_at hl 0 rfl) ?_
      refine va_get (D := D) (ci := 0) (v := .ref (ad 1)) (C := R_C) (T := F_C) (N := 7) hx hb hts in_C hown hK hP 0 cw_0 rfl 0 (by decide) (hts _ k_129) (fun _ h9 => h9) rfl d_C_mostUrgent_11 ?_
      refine lv_iload_n hx hb d_C_mostUrgent_14 rfl (lv_at hl 2 rfl) ?_
      have hi1 : vp_in (nI i) 8 := (vp_in_nI (by omega) (by decide))
      refine va_aldq hx hb hK hP 1 1 cw_1 rfl hi1 d_C_mostUrgent_15 ?_
      have hj2 : (nI i).toNatClampNeg < 8 := vi_lt hi1
      rw [show (nI i).toNatClampNeg = i from nI_clamp (by omega)]
      rw [show (nI i).toNatClampNeg = i from nI_clamp (by omega)] at hj2
      refine W.eq (g2 := F0 m 16 ls [.ref (ad (5 + 2 * i))]) rfl ?_
      refine va_getN (D := D) (ci := 1) (v := .int (st (5 + 2 * i) 4)) (C := R_T) (T := F_T) (N := 10) hx hb hts in_T hown hK hP (5 + 2 * i) (cw_k hj2) rfl 4 (by decide) (va_Nw.use rfl (hN _ nk_C_146)) (fun _ h9 => h9) rfl d_C_mostUrgent_16 ?_
      refine lv_if_eq (tgt := 47) hx hb d_C_mostUrgent_19 (by decide) (fun hc3 => ?_) (fun hc3 => ?_)
      · have he := he.trans (if_pos hc3)
        refine lv_iinc (k := 2) (v := (nI (i + 1))) hx hb d_C_mostUrgent_47 hl rfl (by first | rfl | (rw [nI_succ]; rfl)) (by decide) rfl (fun ls hl => ?_)
        have hl : lv_has ls 3 [(2, .int (nI (i + 1))), (0, .ref (ad 0)), (1, .int v1)] := hl
        refine lv_goto (tgt := 4) hx hb d_C_mostUrgent_50 (by decide) ?_
        exact ih (i + 1) v1 ls (by omega) (lv_sub hl [1, 2, 0] rfl) (by first | with_reducible assumption | exact Or.inl rfl | exact (fun h9 => absurd h9 (by decide)) | exact (fun h9 => absurd rfl h9) | exact vi_runner _ | exact Or.inr (vp_in_nI (by omega) (by decide)) | exact Or.inr (by first | with_reducible assumption | exact vi_isIn7 (by with_reducible assumption) | exact vi_isThing (by with_reducible assumption) | exact vi_decl (by with_reducible assumption) | exact vi_ready (by with_reducible assumption) | exact vi_run (by with_reducible assumption) (by with_reducible assumption) | exact vi_run (by with_reducible assumption) (vi_runner _) | exact vi_mTask (by with_reducible assumption) | exact vi_mThing (by with_reducible assumption) | exact vi_mdecl (by with_reducible assumption) | exact vi_mready (by with_reducible assumption)) | exact (fun _ => ⟨(by first | with_reducible assumption | exact vi_isIn7 (by with_reducible assumption) | exact vi_isThing (by with_reducible assumption) | exact vi_decl (by with_reducible assumption) | exact vi_ready (by with_reducible assumption) | exact vi_run (by with_reducible assumption) (by with_reducible assumption) | exact vi_run (by with_reducible assumption) (vi_runner _) | exact vi_mTask (by with_reducible assumption) | exact vi_mThing (by with_reducible assumption) | exact vi_mdecl (by with_reducible assumption) | exact vi_mready (by with_reducible assumption)), (by first | with_reducible assumption | exact vi_isIn7 (by with_reducible assumption) | exact vi_isThing (by with_reducible assumption) | exact vi_decl (by with_reducible assumption) | exact vi_ready (by with_reducible assumption) | exact vi_run (by with_reducible assumption) (by with_reducible assumption) | exact vi_run (by with_reducible assumption) (vi_runner _) | exact vi_mTask (by with_reducible assumption) | exact vi_mThing (by with_reducible assumption) | exact vi_mdecl (by with_reducible assumption) | exact vi_mready (by with_reducible assumption))⟩) | exact (fun _ => ⟨vi_latest (by with_reducible assumption) (by with_reducible assumption), vi_run (by with_reducible assumption) (by with_reducible assumption)⟩) | exact (fun _ => (by with_reducible assumption : ¬ v4 = 0 → _) (by with_reducible assumption)) | exact (fun _ => (by first | with_reducible assumption | exact vi_isIn7 (by with_reducible assumption) | exact vi_isThing (by with_reducible assumption) | exact vi_decl (by with_reducible assumption) | exact vi_ready (by with_reducible assumption) | exact vi_run (by with_reducible assumption) (by with_reducible assumption) | exact vi_run (by with_reducible assumption) (vi_runner _) | exact vi_mTask (by with_reducible assumption) | exact vi_mThing (by with_reducible assumption) | exact vi_mdecl (by with_reducible assumption) | exact vi_mready (by with_reducible assumption))) | exact (by first | with_reducible assumption | exact vi_isIn7 (by with_reducible assumption) | exact vi_isThing (by with_reducible assumption) | exact vi_decl (by with_reducible assumption) | exact vi_ready (by with_reducible assumption) | exact vi_run (by with_reducible assumption) (by with_reducible assumption) | exact vi_run (by with_reducible assumption) (vi_runner _) | exact vi_mTask (by with_reducible assumption) | exact vi_mThing (by with_reducible assumption) | exact vi_mdecl (by with_reducible assumption) | exact vi_mready (by with_reducible assumption))) he
      · have he := he.trans (if_neg hc3)
        refine lv_iload_n hx hb d_C_mostUrgent_22 rfl (lv_at hl 1 rfl) ?_
        refine lv_iconst (v := (-1)) hx hb d_C_mostUrgent_23 (by decide) ?_
        refine lv_icmp_eq (tgt := 45) hx hb d_C_mostUrgent_24 (by decide) (fun hc4 => ?_) (fun hc4 => ?_)
        · have he := he.trans (if_pos hc4)
          refine lv_iload_n hx hb d_C_mostUrgent_45 rfl (lv_at hl 2 rfl) ?_
          refine lv_istore_n hx hb d_C_mostUrgent_46 rfl hl (by decide) rfl (fun ls hl => ?_)
          have hl : lv_has ls 3 [(1, .int (nI i)), (0, .ref (ad 0)), (2, .int (nI i))] := hl
          refine lv_iinc (k := 2) (v := (nI (i + 1))) hx hb d_C_mostUrgent_47 hl rfl (by first | rfl | (rw [nI_succ]; rfl)) (by decide) rfl (fun ls hl => ?_)
          have hl : lv_has ls 3 [(2, .int (nI (i + 1))), (1, .int (nI i)), (0, .ref (ad 0))] := hl
          refine lv_goto (tgt := 4) hx hb d_C_mostUrgent_50 (by decide) ?_
          exact ih (i + 1) (nI i) ls (by omega) (lv_sub hl [2, 1, 0] rfl) (by first | with_reducible assumption | exact Or.inl rfl | exact (fun h9 => absurd h9 (by decide)) | exact (fun h9 => absurd rfl h9) | exact vi_runner _ | exact Or.inr (vp_in_nI (by omega) (by decide)) | exact Or.inr (by first | with_reducible assumption | exact vi_isIn7 (by with_reducible assumption) | exact vi_isThing (by with_reducible assumption) | exact vi_decl (by with_reducible assumption) | exact vi_ready (by with_reducible assumption) | exact vi_run (by with_reducible assumption) (by with_reducible assumption) | exact vi_run (by with_reducible assumption) (vi_runner _) | exact vi_mTask (by with_reducible assumption) | exact vi_mThing (by with_reducible assumption) | exact vi_mdecl (by with_reducible assumption) | exact vi_mready (by with_reducible assumption)) | exact (fun _ => ⟨(by first | with_reducible assumption | exact vi_isIn7 (by with_reducible assumption) | exact vi_isThing (by with_reducible assumption) | exact vi_decl (by with_reducible assumption) | exact vi_ready (by with_reducible assumption) | exact vi_run (by with_reducible assumption) (by with_reducible assumption) | exact vi_run (by with_reducible assumption) (vi_runner _) | exact vi_mTask (by with_reducible assumption) | exact vi_mThing (by with_reducible assumption) | exact vi_mdecl (by with_reducible assumption) | exact vi_mready (by with_reducible assumption)), (by first | with_reducible assumption | exact vi_isIn7 (by with_reducible assumption) | exact vi_isThing (by with_reducible assumption) | exact vi_decl (by with_reducible assumption) | exact vi_ready (by with_reducible assumption) | exact vi_run (by with_reducible assumption) (by with_reducible assumption) | exact vi_run (by with_reducible assumption) (vi_runner _) | exact vi_mTask (by with_reducible assumption) | exact vi_mThing (by with_reducible assumption) | exact vi_mdecl (by with_reducible assumption) | exact vi_mready (by with_reducible assumption))⟩) | exact (fun _ => ⟨vi_latest (by with_reducible assumption) (by with_reducible assumption), vi_run (by with_reducible assumption) (by with_reducible assumption)⟩) | exact (fun _ => (by with_reducible assumption : ¬ v4 = 0 → _) (by with_reducible assumption)) | exact (fun _ => (by first | with_reducible assumption | exact vi_isIn7 (by with_reducible assumption) | exact vi_isThing (by with_reducible assumption) | exact vi_decl (by with_reducible assumption) | exact vi_ready (by with_reducible assumption) | exact vi_run (by with_reducible assumption) (by with_reducible assumption) | exact vi_run (by with_reducible assumption) (vi_runner _) | exact vi_mTask (by with_reducible assumption) | exact vi_mThing (by with_reducible assumption) | exact vi_mdecl (by with_reducible assumption) | exact vi_mready (by with_reducible assumption))) | exact (by first | with_reducible assumption | exact vi_isIn7 (by with_reducible assumption) | exact vi_isThing (by with_reducible assumption) | exact vi_decl (by with_reducible assumption) | exact vi_ready (by with_reducible assumption) | exact vi_run (by with_reducible assumption) (by with_reducible assumption) | exact vi_run (by with_reducible assumption) (vi_runner _) | exact vi_mTask (by with_reducible assumption) | exact vi_mThing (by with_reducible assumption) | exact vi_mdecl (by with_reducible assumption) | exact vi_mready (by with_reducible assumption))) he
        · have he := he.trans (if_neg hc4)
          refine lv_aload_n hx hb d_C_mostUrgent_27 rfl (lv_at hl 0 rfl) ?_
          refine va_get (D := D) (ci := 0) (v := .ref (ad 1)) (C := R_C) (T := F_C) (N := 7) hx hb hts in_C hown hK hP 0 cw_0 rfl 0 (by decide) (hts _ k_129) (fun _ h9 => h9) rfl d_C_mostUrgent_28 ?_
          refine lv_iload_n hx hb d_C_mostUrgent_31 rfl (lv_at hl 2 rfl) ?_
          have hi5 : vp_in (nI i) 8 := (vp_in_nI (by omega) (by decide))
          refine va_aldq hx hb hK hP 1 1 cw_1 rfl hi5 d_C_mostUrgent_32 ?_
          have hj6 : (nI i).toNatClampNeg < 8 := vi_lt hi5
          rw [show (nI i).toNatClampNeg = i from nI_clamp (by omega)]
          rw [show (nI i).toNatClampNeg = i from nI_clamp (by omega)] at hj6
          refine W.eq (g2 := F0 m 33 ls [.ref (ad (5 + 2 * i))]) rfl ?_
          refine lv_aload_n hx hb d_C_mostUrgent_33 rfl (lv_at hl 0 rfl) ?_
          refine va_get (D := D) (ci := 0) (v := .ref (ad 1)) (C := R_C) (T := F_C) (N := 7) hx hb hts in_C hown hK hP 0 cw_0 rfl 0 (by decide) (hts _ k_129) (fun _ h9 => h9) rfl d_C_mostUrgent_34 ?_
          refine lv_iload_n hx hb d_C_mostUrgent_37 rfl (lv_at hl 1 rfl) ?_
          have hi7 : vp_in v1 8 := (by first | with_reducible assumption | exact vi_isIn7 (by with_reducible assumption) | exact vi_isThing (by with_reducible assumption) | exact vi_decl (by with_reducible assumption) | exact vi_ready (by with_reducible assumption) | exact vi_run (by with_reducible assumption) (by with_reducible assumption) | exact vi_run (by with_reducible assumption) (vi_runner _) | exact vi_mTask (by with_reducible assumption) | exact vi_mThing (by with_reducible assumption) | exact vi_mdecl (by with_reducible assumption) | exact vi_mready (by with_reducible assumption))
          refine va_aldq hx hb hK hP 1 1 cw_1 rfl hi7 d_C_mostUrgent_38 ?_
          have hj8 : v1.toNatClampNeg < 8 := vi_lt hi7
          refine W.eq (g2 := F0 m 39 ls [.ref (ad (5 + 2 * v1.toNatClampNeg)), .ref (ad (5 + 2 * i))]) rfl ?_
          refine rdV (As := [.ref (ad (5 + 2 * v1.toNatClampNeg))]) (rest := []) (na := 1) (c_T_goesBefore l D cI cT cH ad st i v1.toNatClampNeg hj6 hj8) ⟨hx, hb, hml, hown, hts⟩ k_178 k_179 k_180 k_26 k_181 (by decide +kernel) (by decide) (by decide) hP hK hN (q0 := (5 + 2 * i)) (ci := 1) (cw_k hj6) rfl rfl hl.1 rfl (Nat.le_of_ble_eq_true rfl) d_C_mostUrgent_39 ?_
          refine lv_if_eq (tgt := 47) hx hb d_C_mostUrgent_42 (by decide) (fun hc9 => ?_) (fun hc9 => ?_)
          · have he := he.trans (if_pos hc9)
            refine lv_iinc (k := 2) (v := (nI (i + 1))) hx hb d_C_mostUrgent_47 hl rfl (by first | rfl | (rw [nI_succ]; rfl)) (by decide) rfl (fun ls hl => ?_)
            have hl : lv_has ls 3 [(2, .int (nI (i + 1))), (0, .ref (ad 0)), (1, .int v1)] := hl
            refine lv_goto (tgt := 4) hx hb d_C_mostUrgent_50 (by decide) ?_
            exact ih (i + 1) v1 ls (by omega) (lv_sub hl [1, 2, 0] rfl) (by first | with_reducible assumption | exact Or.inl rfl | exact (fun h9 => absurd h9 (by decide)) | exact (fun h9 => absurd rfl h9) | exact vi_runner _ | exact Or.inr (vp_in_nI (by omega) (by decide)) | exact Or.inr (by first | with_reducible assumption | exact vi_isIn7 (by with_reducible assumption) | exact vi_isThing (by with_reducible assumption) | exact vi_decl (by with_reducible assumption) | exact vi_ready (by with_reducible assumption) | exact vi_run (by with_reducible assumption) (by with_reducible assumption) | exact vi_run (by with_reducible assumption) (vi_runner _) | exact vi_mTask (by with_reducible assumption) | exact vi_mThing (by with_reducible assumption) | exact vi_mdecl (by with_reducible assumption) | exact vi_mready (by with_reducible assumption)) | exact (fun _ => ⟨(by first | with_reducible assumption | exact vi_isIn7 (by with_reducible assumption) | exact vi_isThing (by with_reducible assumption) | exact vi_decl (by with_reducible assumption) | exact vi_ready (by with_reducible assumption) | exact vi_run (by with_reducible assumption) (by with_reducible assumption) | exact vi_run (by with_reducible assumption) (vi_runner _) | exact vi_mTask (by with_reducible assumption) | exact vi_mThing (by with_reducible assumption) | exact vi_mdecl (by with_reducible assumption) | exact vi_mready (by with_reducible assumption)), (by first | with_reducible assumption | exact vi_isIn7 (by with_reducible assumption) | exact vi_isThing (by with_reducible assumption) | exact vi_decl (by with_reducible assumption) | exact vi_ready (by with_reducible assumption) | exact vi_run (by with_reducible assumption) (by with_reducible assumption) | exact vi_run (by with_reducible assumption) (vi_runner _) | exact vi_mTask (by with_reducible assumption) | exact vi_mThing (by with_reducible assumption) | exact vi_mdecl (by with_reducible assumption) | exact vi_mready (by with_reducible assumption))⟩) | exact (fun _ => ⟨vi_latest (by with_reducible assumption) (by with_reducible assumption), vi_run (by with_reducible assumption) (by with_reducible assumption)⟩) | exact (fun _ => (by with_reducible assumption : ¬ v4 = 0 → _) (by with_reducible assumption)) | exact (fun _ => (by first | with_reducible assumption | exact vi_isIn7 (by with_reducible assumption) | exact vi_isThing (by with_reducible assumption) | exact vi_decl (by with_reducible assumption) | exact vi_ready (by with_reducible assumption) | exact vi_run (by with_reducible assumption) (by with_reducible assumption) | exact vi_run (by with_reducible assumption) (vi_runner _) | exact vi_mTask (by with_reducible assumption) | exact vi_mThing (by with_reducible assumption) | exact vi_mdecl (by with_reducible assumption) | exact vi_mready (by with_reducible assumption))) | exact (by first | with_reducible assumption | exact vi_isIn7 (by with_reducible assumption) | exact vi_isThing (by with_reducible assumption) | exact vi_decl (by with_reducible assumption) | exact vi_ready (by with_reducible assumption) | exact vi_run (by with_reducible assumption) (by with_reducible assumption) | exact vi_run (by with_reducible assumption) (vi_runner _) | exact vi_mTask (by with_reducible assumption) | exact vi_mThing (by with_reducible assumption) | exact vi_mdecl (by with_reducible assumption) | exact vi_mready (by with_reducible assumption))) he
          · have he := he.trans (if_neg hc9)
            refine lv_iload_n hx hb d_C_mostUrgent_45 rfl (lv_at hl 2 rfl) ?_
            refine lv_istore_n hx hb d_C_mostUrgent_46 rfl hl (by decide) rfl (fun ls hl => ?_)
            have hl : lv_has ls 3 [(1, .int (nI i)), (0, .ref (ad 0)), (2, .int (nI i))] := hl
            refine lv_iinc (k := 2) (v := (nI (i + 1))) hx hb d_C_mostUrgent_47 hl rfl (by first | rfl | (rw [nI_succ]; rfl)) (by decide) rfl (fun ls hl => ?_)
            have hl : lv_has ls 3 [(2, .int (nI (i + 1))), (1, .int (nI i)), (0, .ref (ad 0))] := hl
            refine lv_goto (tgt := 4) hx hb d_C_mostUrgent_50 (by decide) ?_
            exact ih (i + 1) (nI i) ls (by omega) (lv_sub hl [2, 1, 0] rfl) (by first | with_reducible assumption | exact Or.inl rfl | exact (fun h9 => absurd h9 (by decide)) | exact (fun h9 => absurd rfl h9) | exact vi_runner _ | exact Or.inr (vp_in_nI (by omega) (by decide)) | exact Or.inr (by first | with_reducible assumption | exact vi_isIn7 (by with_reducible assumption) | exact vi_isThing (by with_reducible assumption) | exact vi_decl (by with_reducible assumption) | exact vi_ready (by with_reducible assumption) | exact vi_run (by with_reducible assumption) (by with_reducible assumption) | exact vi_run (by with_reducible assumption) (vi_runner _) | exact vi_mTask (by with_reducible assumption) | exact vi_mThing (by with_reducible assumption) | exact vi_mdecl (by with_reducible assumption) | exact vi_mready (by with_reducible assumption)) | exact (fun _ => ⟨(by first | with_reducible assumption | exact vi_isIn7 (by with_reducible assumption) | exact vi_isThing (by with_reducible assumption) | exact vi_decl (by with_reducible assumption) | exact vi_ready (by with_reducible assumption) | exact vi_run (by with_reducible assumption) (by with_reducible assumption) | exact vi_run (by with_reducible assumption) (vi_runner _) | exact vi_mTask (by with_reducible assumption) | exact vi_mThing (by with_reducible assumption) | exact vi_mdecl (by with_reducible assumption) | exact vi_mready (by with_reducible assumption)), (by first | with_reducible assumption | exact vi_isIn7 (by with_reducible assumption) | exact vi_isThing (by with_reducible assumption) | exact vi_decl (by with_reducible assumption) | exact vi_ready (by with_reducible assumption) | exact vi_run (by with_reducible assumption) (by with_reducible assumption) | exact vi_run (by with_reducible assumption) (vi_runner _) | exact vi_mTask (by with_reducible assumption) | exact vi_mThing (by with_reducible assumption) | exact vi_mdecl (by with_reducible assumption) | exact vi_mready (by with_reducible assumption))⟩) | exact (fun _ => ⟨vi_latest (by with_reducible assumption) (by with_reducible assumption), vi_run (by with_reducible assumption) (by with_reducible assumption)⟩) | exact (fun _ => (by with_reducible assumption : ¬ v4 = 0 → _) (by with_reducible assumption)) | exact (fun _ => (by first | with_reducible assumption | exact vi_isIn7 (by with_reducible assumption) | exact vi_isThing (by with_reducible assumption) | exact vi_decl (by with_reducible assumption) | exact vi_ready (by with_reducible assumption) | exact vi_run (by with_reducible assumption) (by with_reducible assumption) | exact vi_run (by with_reducible assumption) (vi_runner _) | exact vi_mTask (by with_reducible assumption) | exact vi_mThing (by with_reducible assumption) | exact vi_mdecl (by with_reducible assumption) | exact vi_mready (by with_reducible assumption))) | exact (by first | with_reducible assumption | exact vi_isIn7 (by with_reducible assumption) | exact vi_isThing (by with_reducible assumption) | exact vi_decl (by with_reducible assumption) | exact vi_ready (by with_reducible assumption) | exact vi_run (by with_reducible assumption) (by with_reducible assumption) | exact vi_run (by with_reducible assumption) (vi_runner _) | exact vi_mTask (by with_reducible assumption) | exact vi_mThing (by with_reducible assumption) | exact vi_mdecl (by with_reducible assumption) | exact vi_mready (by with_reducible assumption))) he
  have he := f_C_mostUrgent.eq_1 st
  refine lv_iconst (v := (-1)) hx hb d_C_mostUrgent_0 (by decide) ?_
  refine lv_istore_n hx hb d_C_mostUrgent_1 rfl hl (by decide) rfl (fun ls hl => ?_)
  have hl : lv_has ls 3 [(1, .int (-1)), (0, .ref (ad 0))] := hl
  refine lv_iconst (v := 0) hx hb d_C_mostUrgent_2 (by decide) ?_
  refine lv_istore_n hx hb d_C_mostUrgent_3 rfl hl (by decide) rfl (fun ls hl => ?_)
  have hl : lv_has ls 3 [(2, .int 0), (1, .int (-1)), (0, .ref (ad 0))] := hl
  exact L4 8 0 (-1) ls (by first | decide | omega) (lv_sub hl [2, 1, 0] rfl) (by first | with_reducible assumption | exact Or.inl rfl | exact (fun h9 => absurd h9 (by decide)) | exact (fun h9 => absurd rfl h9) | exact vi_runner _ | exact Or.inr (vp_in_nI (by omega) (by decide)) | exact Or.inr (by first | with_reducible assumption | exact vi_isIn7 (by with_reducible assumption) | exact vi_isThing (by with_reducible assumption) | exact vi_decl (by with_reducible assumption) | exact vi_ready (by with_reducible assumption) | exact vi_run (by with_reducible assumption) (by with_reducible assumption) | exact vi_run (by with_reducible assumption) (vi_runner _) | exact vi_mTask (by with_reducible assumption) | exact vi_mThing (by with_reducible assumption) | exact vi_mdecl (by with_reducible assumption) | exact vi_mready (by with_reducible assumption)) | exact (fun _ => ⟨(by first | with_reducible assumption | exact vi_isIn7 (by with_reducible assumption) | exact vi_isThing (by with_reducible assumption) | exact vi_decl (by with_reducible assumption) | exact vi_ready (by with_reducible assumption) | exact vi_run (by with_reducible assumption) (by with_reducible assumption) | exact vi_run (by with_reducible assumption) (vi_runner _) | exact vi_mTask (by with_reducible assumption) | exact vi_mThing (by with_reducible assumption) | exact vi_mdecl (by with_reducible assumption) | exact vi_mready (by with_reducible assumption)), (by first | with_reducible assumption | exact vi_isIn7 (by with_reducible assumption) | exact vi_isThing (by with_reducible assumption) | exact vi_decl (by with_reducible assumption) | exact vi_ready (by with_reducible assumption) | exact vi_run (by with_reducible assumption) (by with_reducible assumption) | exact vi_run (by with_reducible assumption) (vi_runner _) | exact vi_mTask (by with_reducible assumption) | exact vi_mThing (by with_reducible assumption) | exact vi_mdecl (by with_reducible assumption) | exact vi_mready (by with_reducible assumption))⟩) | exact (fun _ => ⟨vi_latest (by with_reducible assumption) (by with_reducible assumption), vi_run (by with_reducible assumption) (by with_reducible assumption)⟩) | exact (fun _ => (by with_reducible assumption : ¬ v4 = 0 → _) (by with_reducible assumption)) | exact (fun _ => (by first | with_reducible assumption | exact vi_isIn7 (by with_reducible assumption) | exact vi_isThing (by with_reducible assumption) | exact vi_decl (by with_reducible assumption) | exact vi_ready (by with_reducible assumption) | exact vi_run (by with_reducible assumption) (by with_reducible assumption) | exact vi_run (by with_reducible assumption) (vi_runner _) | exact vi_mTask (by with_reducible assumption) | exact vi_mThing (by with_reducible assumption) | exact vi_mdecl (by with_reducible assumption) | exact vi_mready (by with_reducible assumption))) | exact (by first | with_reducible assumption | exact vi_isIn7 (by with_reducible assumption) | exact vi_isThing (by with_reducible assumption) | exact vi_decl (by with_reducible assumption) | exact vi_ready (by with_reducible assumption) | exact vi_run (by with_reducible assumption) (by with_reducible assumption) | exact vi_run (by with_reducible assumption) (vi_runner _) | exact vi_mTask (by with_reducible assumption) | exact vi_mThing (by with_reducible assumption) | exact vi_mdecl (by with_reducible assumption) | exact vi_mready (by with_reducible assumption))) he
set_option maxHeartbeats 4000000 in
set_option maxRecDepth 100000 in
theorem c_C_happened (l : Launch) (D : va_G) (cI cT cH : ClassId) (ad : Nat → Nat) (st : St) (p1 : Int32) (p2 : Int32) (p3 : Int32) (hI : ∀ i j, i < 27 → j < 27 → ad i = ad j → i = j) : Met l y_C_happened w_C_happened { frames := 2, cells := 0, slots := 0, locals := 46 } (va_Pc [.ref (ad 0), .int p1, .int p2, .int p3] (gW D cI cT cH (cw cI cT cH ad st))) (qV D (cw cI cT cH ad (f_C_happened st p1 p2 p3)) (inA ad 27)) 0 0 (inA ad 27) := by
  refine Met.ofW (cc := b_C_happened) (maxL := 5) (ret := none) (by decide +kernel) rfl ?_
  intro p e s m args below meth c s₁ B hml hv
  obtain ⟨rfl, hP, hK, hN⟩ := hv
  have hx := B.exec
  have hb := B.bytes
  have hr := B.returns
  have hlocks := B.notSynchronized
  have hts0 := atoms_spec (ws := w_C_happened) B.pre
  have hts : ∀ w ∈ TT, w.before [.ref (ad 0), .int p1, .int p2, .int p3].toArray s = true := fun w h => hts0 w (List.mem_cons_of_mem _ h)
  have hown : s.vm.findClass R_C = some m.cls := findClass_of_methodNamed B.named
  have hS : va_S (inA ad 27) s.heap s.heap [] := va_S.rf
  have hl := lv_entry ([.ref (ad 0), .int p1, .int p2, .int p3]) (n := 5) (Nat.le_of_ble_eq_true rfl)
  rw [lg_entry_eq]
  generalize (lg_sl ([.ref (ad 0), .int p1, .int p2, .int p3]) ++ List.replicate (5 - (lg_sl ([.ref (ad 0), .int p1, .int p2, .int p3])).length) Slot.unset).toArray = ls at hl ⊢
  have hl : lv_has ls 5 [(0, .ref (ad 0)), (1, .int p1), (2, .int p2), (3, .int p3)] := hl
  have J53 : ∀ (x1 : Int32) (x2 : Int32) (sl : St) (H : Heap) (locs : List Loc) (ls : Array Slot), lv_has ls 5 [(0, .ref (ad 0))] → va_P D cls9 (cw cI cT cH ad sl) H → va_S (inA ad 27) s.heap H locs → f_C_happened st p1 p2 p3 = f_C_happened_B53 sl x1 x2 → W p l e (headSpec w_C_happened { frames := 2, cells := 0, slots := 0, locals := 46 }).room s m [.ref (ad 0), .int p1, .int p2, .int p3].toArray below meth c H locs 0 0 (MQ below (qV D (cw cI cT cH ad (f_C_happened st p1 p2 p3)) (inA ad 27)) [.ref (ad 0), .int p1, .int p2, .int p3].toArray s 0 0 (inA ad 27)) (F0 m 53 ls [.int x2, .int x1, .ref (ad 3)]) := by
    intro x1 x2 sl H locs ls hl hP hS he
    rw [f_C_happened_B53] at he
    refine lv_bipush (v := 15) hx hb d_C_happened_53 (by decide) ?_
    refine lv_aload_n hx hb d_C_happened_55 rfl (lv_at hl 0 rfl) ?_
    refine va_get (D := D) (ci := 0) (v := .int (sl 0 4)) (C := R_C) (T := F_C) (N := 7) hx hb hts in_C hown hK hP 0 cw_0 rfl 4 (by decide) (hts _ k_133) (fun _ h9 => h9) rfl d_C_happened_56 ?_
    refine wcV (As := [.int x1, .int x2, .int 15, .int (sl 0 4)]) (rest := []) (na := 4) (c_N_write l D cI cT cH ad sl x1 x2 15 (sl 0 4) hI) ⟨hx, hb, hml, hown, hts⟩ k_377 k_378 k_379 k_25 k_380 (by decide +kernel) (by decide) (by decide) hP hK hN (q0 := 3) (ci := 3) cw_3 rfl hS rfl hl.1 rfl (Nat.le_of_ble_eq_true rfl) d_C_happened_59 (fun H locs hP hS => ?_)
    generalize hw2 : f_N_write sl x1 x2 15 (sl 0 4) = sw1 at hP he
    refine W.eq (g2 := F0 m 62 ls []) rfl ?_
    exact W.vret hx hb hr (fun t ht _ => ⟨⟨(), rfl, trivial, (by rw [he]; show va_P _ _ _ t.heap; rw [ht]; exact hP)⟩, hS.F ht⟩) hS.2.2 d_C_happened_62
  have he := f_C_happened.eq_1 st p1 p2 p3
  refine lv_aload_n hx hb d_C_happened_0 rfl (lv_at hl 0 rfl) ?_
  refine va_get (D := D) (ci := 0) (v := .ref (ad 3)) (C := R_C) (T := F_C) (N := 7) hx hb hts in_C hown hK hP 0 cw_0 rfl 2 (by decide) (hts _ k_131) (fun _ h9 => h9) rfl d_C_happened_1 ?_
  refine lv_iload_n hx hb d_C_happened_4 rfl (lv_at hl 1 rfl) ?_
  refine lv_iload_n hx hb d_C_happened_5 rfl (lv_at hl 2 rfl) ?_
  refine lv_iload_n hx hb d_C_happened_6 rfl (lv_at hl 3 rfl) ?_
  refine lv_aload_n hx hb d_C_happened_7 rfl (lv_at hl 0 rfl) ?_
  refine va_get (D := D) (ci := 0) (v := .int (st 0 4)) (C := R_C) (T := F_C) (N := 7) hx hb hts in_C hown hK hP 0 cw_0 rfl 4 (by decide) (hts _ k_133) (fun _ h9 => h9) rfl d_C_happened_8 ?_
  refine wcV (As := [.int p1, .int p2, .int p3, .int (st 0 4)]) (rest := []) (na := 4) (c_N_write l D cI cT cH ad st p1 p2 p3 (st 0 4) hI) ⟨hx, hb, hml, hown, hts⟩ k_377 k_378 k_379 k_25 k_380 (by decide +kernel) (by decide) (by decide) hP hK hN (q0 := 3) (ci := 3) cw_3 rfl hS rfl hl.1 rfl (Nat.le_of_ble_eq_true rfl) d_C_happened_11 (fun H locs hP hS => ?_)
  generalize hw4 : f_N_write st p1 p2 p3 (st 0 4) = sw3 at hP he
  refine W.eq (g2 := F0 m 14 ls []) rfl ?_
  rw [f_C_happened_S14] at he
  refine lv_aload_n hx hb d_C_happened_14 rfl (lv_at hl 0 rfl) ?_
  refine rdV (As := []) (rest := []) (na := 0) (c_C_mostUrgent l D cI cT cH ad sw3  ) ⟨hx, hb, hml, hown, hts⟩ k_382 k_384 k_9 k_24 k_385 (by decide +kernel) (by decide) (by decide) hP hK hN (q0 := 0) (ci := 0) cw_0 rfl rfl hl.1 rfl (Nat.le_of_ble_eq_true rfl) d_C_happened_15 ?_
  refine lv_istore hx hb d_C_happened_18 hl (by decide) rfl (fun ls hl => ?_)
  have hl : lv_has ls 5 [(4, .int (f_C_mostUrgent sw3)), (0, .ref (ad 0)), (1, .int p1), (2, .int p2), (3, .int p3)] := hl
  refine lv_iload hx hb d_C_happened_20 (lv_at hl 0 rfl) ?_
  refine lv_aload_n hx hb d_C_happened_22 rfl (lv_at hl 1 rfl) ?_
  refine va_get (D := D) (ci := 0) (v := .int (sw3 0 6)) (C := R_C) (T := F_C) (N := 7) hx hb hts in_C hown hK hP 0 cw_0 rfl 6 (by decide) (hts _ k_135) (fun _ h9 => h9) rfl d_C_happened_23 ?_
  refine lv_icmp_eq (tgt := 62) hx hb d_C_happened_26 (by decide) (fun hc5 => ?_) (fun hc5 => ?_)
  · have he := he.trans (if_pos hc5)
    exact W.vret hx hb hr (fun t ht _ => ⟨⟨(), rfl, trivial, (by rw [he]; show va_P _ _ _ t.heap; rw [ht]; exact hP)⟩, hS.F ht⟩) hS.2.2 d_C_happened_62
  · have he := he.trans (if_neg hc5)
    refine lv_aload_n hx hb d_C_happened_29 rfl (lv_at hl 1 rfl) ?_
    refine lv_iload hx hb d_C_happened_30 (lv_at hl 0 rfl) ?_
    refine va_put (D := D) (ci := 0) (v := .int (f_C_mostUrgent sw3)) (ty := .int) (C := R_C) (T := F_C) (N := 7) hx hb hts in_C ft_C ft_C_ok n_C hown hK hP (cw_D hI) hS 0 cw_0 rfl 6 (by decide) (hts _ k_135) (fun _ h9 => h9) rfl (by decide +kernel) rfl rfl (Nat.le_of_ble_eq_true rfl) d_C_happened_32 (fun H locs hP _ hS => ?_)
    rw [cp_0 (k := 6) (by decide)] at hP
    generalize hw7 : wr sw3 0 6 (f_C_mostUrgent sw3) = sw6 at hP he
    refine W.eq (g2 := F0 m 35 ls []) rfl ?_
    rw [f_C_happened_S35] at he
    refine lv_aload_n hx hb d_C_happened_35 rfl (lv_at hl 1 rfl) ?_
    refine va_get (D := D) (ci := 0) (v := .ref (ad 3)) (C := R_C) (T := F_C) (N := 7) hx hb hts in_C hown hK hP 0 cw_0 rfl 2 (by decide) (hts _ k_131) (fun _ h9 => h9) rfl d_C_happened_36 ?_
    refine lv_iconst (v := 5) hx hb d_C_happened_39 (by decide) ?_
    refine lv_iload hx hb d_C_happened_40 (lv_at hl 0 rfl) ?_
    refine lv_iconst (v := (-1)) hx hb d_C_happened_42 (by decide) ?_
    refine lv_icmp_ne (tgt := 51) hx hb d_C_happened_43 (by decide) (fun hc8 => ?_) (fun hc8 => ?_)
    · have he := he.trans (if_neg hc8)
      refine lv_iload hx hb d_C_happened_51 (lv_at hl 0 rfl) ?_
      exact J53 5 (f_C_mostUrgent sw3) sw6 H locs ls (lv_sub hl [1] rfl) hP hS he
    · have he := he.trans (if_pos hc8)
      refine lv_bipush (v := 8) hx hb d_C_happened_46 (by decide) ?_
      refine lv_goto (tgt := 53) hx hb d_C_happened_48 (by decide) ?_
      exact J53 5 8 sw6 H locs ls (lv_sub hl [1] rfl) hP hS he
set_option maxHeartbeats 4000000 in
set_option maxRecDepth 100000 in
theorem c_C_delayMoreUrgentThan (l : Launch) (D : va_G) (cI cT cH : ClassId) (ad : Nat → Nat) (st : St) (p1 : Int32) (p2 : Int32) (hI : ∀ i j, i < 27 → j < 27 → ad i = ad j → i = j) : Met l y_C_delayMoreUrgentThan w_C_delayMoreUrgentThan { frames := 0, cells := 0, slots := 0, locals := 0 } (va_Pc [.ref (ad 0), .int p1, .int p2] (gW D cI cT cH (cw cI cT cH ad st))) (qV D (cw cI cT cH ad (f_C_delayMoreUrgentThan st p1 p2)) (inA ad 27)) 0 0 (inA ad 27) := by
  refine Met.ofW (cc := b_C_delayMoreUrgentThan) (maxL := 4) (ret := none) (by decide +kernel) rfl ?_
  intro p e s m args below meth c s₁ B hml hv
  obtain ⟨rfl, hP, hK, hN⟩ := hv
  have hx := B.exec
  have hb := B.bytes
  have hr := B.returns
  have hlocks := B.notSynchronized
  have hts0 := atoms_spec (ws := w_C_delayMoreUrgentThan) B.pre
  have hts : ∀ w ∈ TT, w.before [.ref (ad 0), .int p1, .int p2].toArray s = true := fun w h => hts0 w (List.mem_cons_of_mem _ h)
  have hown : s.vm.findClass R_C = some m.cls := findClass_of_methodNamed B.named
  have hS : va_S (inA ad 27) s.heap s.heap [] := va_S.rf
  have hl := lv_entry ([.ref (ad 0), .int p1, .int p2]) (n := 4) (Nat.le_of_ble_eq_true rfl)
  rw [lg_entry_eq]
  generalize (lg_sl ([.ref (ad 0), .int p1, .int p2]) ++ List.replicate (4 - (lg_sl ([.ref (ad 0), .int p1, .int p2])).length) Slot.unset).toArray = ls at hl ⊢
  have hl : lv_has ls 4 [(0, .ref (ad 0)), (1, .int p1), (2, .int p2)] := hl
  have L2 : ∀ (n i : Nat) (sl : St) (H : Heap) (locs : List Loc) (ls : Array Slot), i + n = 8 → lv_has ls 4 [(0, .ref (ad 0)), (1, .int p1), (2, .int p2), (3, .int (nI i))] → va_P D cls9 (cw cI cT cH ad sl) H → va_S (inA ad 27) s.heap H locs → f_C_delayMoreUrgentThan st p1 p2 = f_C_delayMoreUrgentThan_L2 n i sl p1 p2 → W p l e (headSpec w_C_delayMoreUrgentThan { frames := 0, cells := 0, slots := 0, locals := 0 }).room s m [.ref (ad 0), .int p1, .int p2].toArray below meth c H locs 0 0 (MQ below (qV D (cw cI cT cH ad (f_C_delayMoreUrgentThan st p1 p2)) (inA ad 27)) [.ref (ad 0), .int p1, .int p2].toArray s 0 0 (inA ad 27)) (F0 m 2 ls []) := by
    intro n
    induction n with
    | zero =>
      intro i sl H locs ls hcnt hl hP hS he
      have hz : i = 8 := by omega
      subst hz
      rw [f_C_delayMoreUrgentThan_L2] at he
      refine lv_iload_n hx hb d_C_delayMoreUrgentThan_2 rfl (lv_at hl 3 rfl) ?_
      refine lv_bipush (v := 8) hx hb d_C_delayMoreUrgentThan_3 (by decide) ?_
      refine lv_icmp_ge (tgt := 54) hx hb d_C_delayMoreUrgentThan_5 (by decide) (fun _ => ?_) (fun h9 => absurd (by decide) h9)
      exact W.vret hx hb hr (fun t ht _ => ⟨⟨(), rfl, trivial, (by rw [he]; show va_P _ _ _ t.heap; rw [ht]; exact hP)⟩, hS.F ht⟩) hS.2.2 d_C_delayMoreUrgentThan_54
    | succ n ih =>
      intro i sl H locs ls hcnt hl hP hS he
      have hi8 : i < 8 := by omega
      rw [f_C_delayMoreUrgentThan_L2] at he
      refine lv_iload_n hx hb d_C_delayMoreUrgentThan_2 rfl (lv_at hl 3 rfl) ?_
      refine lv_bipush (v := 8) hx hb d_C_delayMoreUrgentThan_3 (by decide) ?_
      refine lv_icmp_ge (tgt := 54) hx hb d_C_delayMoreUrgentThan_5 (by decide) (fun h9 => absurd h9 (nlt_8 hi8)) (fun _ => ?_)
      refine lv_aload_n hx hb d_C_delayMoreUrgentThan_8 rfl (lv_at hl 0 rfl) ?_
      refine va_get (D := D) (ci := 0) (v := .ref (ad 1)) (C := R_C) (T := F_C) (N := 7) hx hb hts in_C hown hK hP 0 cw_0 rfl 0 (by decide) (hts _ k_129) (fun _ h9 => h9) rfl d_C_delayMoreUrgentThan_9 ?_
      refine lv_iload_n hx hb d_C_delayMoreUrgentThan_12 rfl (lv_at hl 3 rfl) ?_
      have hi1 : vp_in (nI i) 8 := (vp_in_nI (by omega) (by decide))
      refine va_aldq hx hb hK hP 1 1 cw_1 rfl hi1 d_C_delayMoreUrgentThan_13 ?_
      have hj2 : (nI i).toNatClampNeg < 8 := vi_lt hi1
      rw [show (nI i).toNatClampNeg = i from nI_clamp (by omega)]
      rw [show (nI i).toNatClampNeg = i from nI_clamp (by omega)] at hj2
      refine W.eq (g2 := F0 m 14 ls [.ref (ad (5 + 2 * i))]) rfl ?_
      refine va_getN (D := D) (ci := 1) (v := .int (sl (5 + 2 * i) 4)) (C := R_T) (T := F_T) (N := 10) hx hb hts in_T hown hK hP (5 + 2 * i) (cw_k hj2) rfl 4 (by decide) (va_Nw.use rfl (hN _ nk_C_146)) (fun _ h9 => h9) rfl d_C_delayMoreUrgentThan_14 ?_
      refine lv_if_eq (tgt := 48) hx hb d_C_delayMoreUrgentThan_17 (by decide) (fun hc3 => ?_) (fun hc3 => ?_)
      · have he := he.trans (if_pos hc3)
        refine lv_iinc (k := 3) (v := (nI (i + 1))) hx hb d_C_delayMoreUrgentThan_48 hl rfl (by first | rfl | (rw [nI_succ]; rfl)) (by decide) rfl (fun ls hl => ?_)
        have hl : lv_has ls 4 [(3, .int (nI (i + 1))), (0, .ref (ad 0)), (1, .int p1), (2, .int p2)] := hl
        refine lv_goto (tgt := 2) hx hb d_C_delayMoreUrgentThan_51 (by decide) ?_
        exact ih (i + 1) sl H locs ls (by omega) (lv_sub hl [1, 2, 3, 0] rfl) hP hS he
      · have he := he.trans (if_neg hc3)
        refine lv_aload_n hx hb d_C_delayMoreUrgentThan_20 rfl (lv_at hl 0 rfl) ?_
        refine va_get (D := D) (ci := 0) (v := .ref (ad 1)) (C := R_C) (T := F_C) (N := 7) hx hb hts in_C hown hK hP 0 cw_0 rfl 0 (by decide) (hts _ k_129) (fun _ h9 => h9) rfl d_C_delayMoreUrgentThan_21 ?_
        refine lv_iload_n hx hb d_C_delayMoreUrgentThan_24 rfl (lv_at hl 3 rfl) ?_
        have hi4 : vp_in (nI i) 8 := (vp_in_nI (by omega) (by decide))
        refine va_aldq hx hb hK hP 1 1 cw_1 rfl hi4 d_C_delayMoreUrgentThan_25 ?_
        have hj5 : (nI i).toNatClampNeg < 8 := vi_lt hi4
        rw [show (nI i).toNatClampNeg = i from nI_clamp (by omega)]
        rw [show (nI i).toNatClampNeg = i from nI_clamp (by omega)] at hj5
        refine W.eq (g2 := F0 m 26 ls [.ref (ad (5 + 2 * i))]) rfl ?_
        refine va_getN (D := D) (ci := 1) (v := .int (sl (5 + 2 * i) 0)) (C := R_T) (T := F_T) (N := 10) hx hb hts in_T hown hK hP (5 + 2 * i) (cw_k hj5) rfl 0 (by decide) (va_Nw.use rfl (hN _ nk_C_64)) (fun _ h9 => h9) rfl d_C_delayMoreUrgentThan_26 ?_
        refine lv_iload_n hx hb d_C_delayMoreUrgentThan_29 rfl (lv_at hl 1 rfl) ?_
        refine lv_icmp_le (tgt := 48) hx hb d_C_delayMoreUrgentThan_30 (by decide) (fun hc6 => ?_) (fun hc6 => ?_)
        · have he := he.trans (if_pos hc6)
          refine lv_iinc (k := 3) (v := (nI (i + 1))) hx hb d_C_delayMoreUrgentThan_48 hl rfl (by first | rfl | (rw [nI_succ]; rfl)) (by decide) rfl (fun ls hl => ?_)
          have hl : lv_has ls 4 [(3, .int (nI (i + 1))), (0, .ref (ad 0)), (1, .int p1), (2, .int p2)] := hl
          refine lv_goto (tgt := 2) hx hb d_C_delayMoreUrgentThan_51 (by decide) ?_
          exact ih (i + 1) sl H locs ls (by omega) (lv_sub hl [1, 2, 3, 0] rfl) hP hS he
        · have he := he.trans (if_neg hc6)
          refine lv_aload_n hx hb d_C_delayMoreUrgentThan_33 rfl (lv_at hl 0 rfl) ?_
          refine va_get (D := D) (ci := 0) (v := .ref (ad 1)) (C := R_C) (T := F_C) (N := 7) hx hb hts in_C hown hK hP 0 cw_0 rfl 0 (by decide) (hts _ k_129) (fun _ h9 => h9) rfl d_C_delayMoreUrgentThan_34 ?_
          refine lv_iload_n hx hb d_C_delayMoreUrgentThan_37 rfl (lv_at hl 3 rfl) ?_
          have hi7 : vp_in (nI i) 8 := (vp_in_nI (by omega) (by decide))
          refine va_aldq hx hb hK hP 1 1 cw_1 rfl hi7 d_C_delayMoreUrgentThan_38 ?_
          have hj8 : (nI i).toNatClampNeg < 8 := vi_lt hi7
          rw [show (nI i).toNatClampNeg = i from nI_clamp (by omega)]
          rw [show (nI i).toNatClampNeg = i from nI_clamp (by omega)] at hj8
          refine W.eq (g2 := F0 m 39 ls [.ref (ad (5 + 2 * i))]) rfl ?_
          refine lv_dup hx hb d_C_delayMoreUrgentThan_39 rfl ?_
          refine va_getN (D := D) (ci := 1) (v := .int (sl (5 + 2 * i) 9)) (C := R_T) (T := F_T) (N := 10) hx hb hts in_T hown hK hP (5 + 2 * i) (cw_k hj8) rfl 9 (by decide) (va_Nw.use rfl (hN _ nk_C_162)) (fun _ h9 => h9) rfl d_C_delayMoreUrgentThan_40 ?_
          refine lv_iload_n hx hb d_C_delayMoreUrgentThan_43 rfl (lv_at hl 2 rfl) ?_
          refine lv_iadd hx hb d_C_delayMoreUrgentThan_44 ?_
          refine va_putN (D := D) (ci := 1) (v := .int ((sl (5 + 2 * i) 9) + p2)) (ty := .int) (C := R_T) (T := F_T) (N := 10) hx hb hts in_T ft_T ft_T_ok n_T hown hK hP (cw_D hI) hS (5 + 2 * i) (cw_k hj8) rfl 9 (by decide) (va_Nw.use rfl (hN _ nk_C_162)) (fun _ h9 => h9) rfl (by decide +kernel) rfl rfl (Nat.le_of_ble_eq_true rfl) d_C_delayMoreUrgentThan_45 (fun H locs hP _ hS => ?_)
          rw [cp_k (k := 9) hj8 (by decide) (by decide)] at hP
          generalize hw10 : wr sl (5 + 2 * i) 9 ((sl (5 + 2 * i) 9) + p2) = sw9 at hP he
          refine W.eq (g2 := F0 m 48 ls []) rfl ?_
          refine lv_iinc (k := 3) (v := (nI (i + 1))) hx hb d_C_delayMoreUrgentThan_48 hl rfl (by first | rfl | (rw [nI_succ]; rfl)) (by decide) rfl (fun ls hl => ?_)
          have hl : lv_has ls 4 [(3, .int (nI (i + 1))), (0, .ref (ad 0)), (1, .int p1), (2, .int p2)] := hl
          refine lv_goto (tgt := 2) hx hb d_C_delayMoreUrgentThan_51 (by decide) ?_
          exact ih (i + 1) sw9 H locs ls (by omega) (lv_sub hl [1, 2, 3, 0] rfl) hP hS he
  have he := f_C_delayMoreUrgentThan.eq_1 st p1 p2
  refine lv_iconst (v := 0) hx hb d_C_delayMoreUrgentThan_0 (by decide) ?_
  refine lv_istore_n hx hb d_C_delayMoreUrgentThan_1 rfl hl (by decide) rfl (fun ls hl => ?_)
  have hl : lv_has ls 4 [(3, .int 0), (0, .ref (ad 0)), (1, .int p1), (2, .int p2)] := hl
  exact L2 8 0 st s.heap [] ls (by first | decide | omega) (lv_sub hl [1, 2, 3, 0] rfl) hP hS he
set_option maxHeartbeats 4000000 in
set_option maxRecDepth 100000 in
theorem c_C_longestUseOfCeiling (l : Launch) (D : va_G) (cI cT cH : ClassId) (ad : Nat → Nat) (st : St) (j1 : Nat) (p2 : Int32) (hj1 : j1 < 8) : Met l y_C_longestUseOfCeiling w_C_longestUseOfCeiling { frames := 1, cells := 0, slots := 0, locals := 21 } (va_Pc [.ref (ad 0), .ref (ad (5 + 2 * j1)), .int p2] (gW D cI cT cH (cw cI cT cH ad st))) (QcRead (f_C_longestUseOfCeiling st j1 p2)) 0 0 (fun _ => False) := by
  refine Met.ofW (cc := b_C_longestUseOfCeiling) (maxL := 5) (ret := (some .int)) (by decide +kernel) rfl ?_
  intro p e s m args below meth c s₁ B hml hv
  obtain ⟨rfl, hP, hK, hN⟩ := hv
  have hx := B.exec
  have hb := B.bytes
  have hr := B.returns
  have hlocks := B.notSynchronized
  have hts0 := atoms_spec (ws := w_C_longestUseOfCeiling) B.pre
  have hts : ∀ w ∈ TT, w.before [.ref (ad 0), .ref (ad (5 + 2 * j1)), .int p2].toArray s = true := fun w h => hts0 w (List.mem_cons_of_mem _ h)
  have hown : s.vm.findClass R_C = some m.cls := findClass_of_methodNamed B.named
  have hl := lv_entry ([.ref (ad 0), .ref (ad (5 + 2 * j1)), .int p2]) (n := 5) (Nat.le_of_ble_eq_true rfl)
  rw [lg_entry_eq]
  generalize (lg_sl ([.ref (ad 0), .ref (ad (5 + 2 * j1)), .int p2]) ++ List.replicate (5 - (lg_sl ([.ref (ad 0), .ref (ad (5 + 2 * j1)), .int p2])).length) Slot.unset).toArray = ls at hl ⊢
  have hl : lv_has ls 5 [(0, .ref (ad 0)), (1, .ref (ad (5 + 2 * j1))), (2, .int p2)] := hl
  have L5 : ∀ (n i : Nat) (v3 : Int32) (ls : Array Slot), i + n = 6 → lv_has ls 5 [(0, .ref (ad 0)), (1, .ref (ad (5 + 2 * j1))), (2, .int p2), (3, .int v3), (4, .int (nI i))] → f_C_longestUseOfCeiling st j1 p2 = f_C_longestUseOfCeiling_L5 n i st j1 p2 v3 → W p l e (headSpec w_C_longestUseOfCeiling { frames := 1, cells := 0, slots := 0, locals := 21 }).room s m [.ref (ad 0), .ref (ad (5 + 2 * j1)), .int p2].toArray below meth c s.heap [] 0 0 (MQ below (QcRead (f_C_longestUseOfCeiling st j1 p2)) [.ref (ad 0), .ref (ad (5 + 2 * j1)), .int p2].toArray s 0 0 (fun _ => False)) (F0 m 5 ls []) := by
    intro n
    induction n with
    | zero =>
      intro i v3 ls hcnt hl he
      have hz : i = 6 := by omega
      subst hz
      rw [f_C_longestUseOfCeiling_L5] at he
      refine lv_iload hx hb d_C_longestUseOfCeiling_5 (lv_at hl 4 rfl) ?_
      refine lv_bipush (v := 6) hx hb d_C_longestUseOfCeiling_7 (by decide) ?_
      refine lv_icmp_ge (tgt := 44) hx hb d_C_longestUseOfCeiling_9 (by decide) (fun _ => ?_) (fun h9 => absurd (by decide) h9)
      refine lv_iload_n hx hb d_C_longestUseOfCeiling_44 rfl (lv_at hl 3 rfl) ?_
      exact W.iret (v := v3) hx hb hr (fun t ht _ => ⟨by rw [he], ht⟩) (fun _ h => nomatch h) d_C_longestUseOfCeiling_45
    | succ n ih =>
      intro i v3 ls hcnt hl he
      have hi8 : i < 6 := by omega
      rw [f_C_longestUseOfCeiling_L5] at he
      refine lv_iload hx hb d_C_longestUseOfCeiling_5 (lv_at hl 4 rfl) ?_
      refine lv_bipush (v := 6) hx hb d_C_longestUseOfCeiling_7 (by decide) ?_
      refine lv_icmp_ge (tgt := 44) hx hb d_C_longestUseOfCeiling_9 (by decide) (fun h9 => absurd h9 (nlt_6 hi8)) (fun _ => ?_)
      refine lv_aload_n hx hb d_C_longestUseOfCeiling_12 rfl (lv_at hl 0 rfl) ?_
      refine va_get (D := D) (ci := 0) (v := .ref (ad 2)) (C := R_C) (T := F_C) (N := 7) hx hb hts in_C hown hK hP 0 cw_0 rfl 1 (by decide) (hts _ k_130) (fun _ h9 => h9) rfl d_C_longestUseOfCeiling_13 ?_
      refine lv_iload hx hb d_C_longestUseOfCeiling_16 (lv_at hl 4 rfl) ?_
      have hi1 : vp_in (nI i) 6 := (vp_in_nI (by omega) (by decide))
      refine va_aldq hx hb hK hP 2 2 cw_2 rfl hi1 d_C_longestUseOfCeiling_18 ?_
      have hj2 : (nI i).toNatClampNeg < 6 := vi_lt hi1
      rw [show (nI i).toNatClampNeg = i from nI_clamp (by omega)]
      rw [show (nI i).toNatClampNeg = i from nI_clamp (by omega)] at hj2
      refine W.eq (g2 := F0 m 19 ls [.ref (ad (21 + i))]) rfl ?_
      refine va_getN (D := D) (ci := 2) (v := .int (st (21 + i) 0)) (C := R_H) (T := F_H) (N := 4) hx hb hts in_H hown hK hP (21 + i) (cw_h hj2) rfl 0 (by decide) (va_Nw.use rfl (hN _ nk_C_87)) (fun _ h9 => h9) rfl d_C_longestUseOfCeiling_19 ?_
      refine lv_iload_n hx hb d_C_longestUseOfCeiling_22 rfl (lv_at hl 2 rfl) ?_
      refine lv_icmp_lt (tgt := 38) hx hb d_C_longestUseOfCeiling_23 (by decide) (fun hc3 => ?_) (fun hc3 => ?_)
      · have he := he.trans (if_pos hc3)
        refine lv_iinc (k := 4) (v := (nI (i + 1))) hx hb d_C_longestUseOfCeiling_38 hl rfl (by first | rfl | (rw [nI_succ]; rfl)) (by decide) rfl (fun ls hl => ?_)
        have hl : lv_has ls 5 [(4, .int (nI (i + 1))), (0, .ref (ad 0)), (1, .ref (ad (5 + 2 * j1))), (2, .int p2), (3, .int v3)] := hl
        refine lv_goto (tgt := 5) hx hb d_C_longestUseOfCeiling_41 (by decide) ?_
        exact ih (i + 1) v3 ls (by omega) (lv_sub hl [1, 2, 3, 4, 0] rfl) he
      · have he := he.trans (if_neg hc3)
        refine lv_iload_n hx hb d_C_longestUseOfCeiling_26 rfl (lv_at hl 3 rfl) ?_
        refine lv_aload_n hx hb d_C_longestUseOfCeiling_27 rfl (lv_at hl 1 rfl) ?_
        refine va_getN (D := D) (ci := 1) (v := .ref (ad (5 + 2 * j1 + 1))) (C := R_T) (T := F_T) (N := 10) hx hb hts in_T hown hK hP (5 + 2 * j1) (cw_k hj1) rfl 3 (by decide) (va_Nw.use rfl (hN _ nk_C_79)) (fun _ h9 => h9) rfl d_C_longestUseOfCeiling_28 ?_
        refine lv_iload hx hb d_C_longestUseOfCeiling_31 (lv_at hl 4 rfl) ?_
        have hi4 : vp_in (nI i) 6 := (vp_in_nI (by omega) (by decide))
        refine va_iald hx hb hK hP (5 + 2 * j1 + 1) 0 (cw_l hj1) rfl hi4 d_C_longestUseOfCeiling_33 ?_
        rw [show (nI i).toNatClampNeg = i from nI_clamp (by omega)]
        refine W.eq (g2 := F0 m 34 ls [.int (st (5 + 2 * j1 + 1) i), .int v3]) rfl ?_
        refine va_mmax hx hb (hml.trans hl.1.symm) hown (hts _ k_209) (hts _ k_210) (hts _ k_34) (hts _ k_211) (Nat.le_of_ble_eq_true rfl) (Nat.le_of_ble_eq_true rfl) (Nat.le_of_ble_eq_true rfl) (Nat.le_of_ble_eq_true rfl) d_C_longestUseOfCeiling_34 ?_
        refine W.eq (g2 := F0 m 37 ls [.int (imax v3 (st (5 + 2 * j1 + 1) i))]) rfl ?_
        refine lv_istore_n hx hb d_C_longestUseOfCeiling_37 rfl hl (by decide) rfl (fun ls hl => ?_)
        have hl : lv_has ls 5 [(3, .int (imax v3 (st (5 + 2 * j1 + 1) i))), (0, .ref (ad 0)), (1, .ref (ad (5 + 2 * j1))), (2, .int p2), (4, .int (nI i))] := hl
        refine lv_iinc (k := 4) (v := (nI (i + 1))) hx hb d_C_longestUseOfCeiling_38 hl rfl (by first | rfl | (rw [nI_succ]; rfl)) (by decide) rfl (fun ls hl => ?_)
        have hl : lv_has ls 5 [(4, .int (nI (i + 1))), (3, .int (imax v3 (st (5 + 2 * j1 + 1) i))), (0, .ref (ad 0)), (1, .ref (ad (5 + 2 * j1))), (2, .int p2)] := hl
        refine lv_goto (tgt := 5) hx hb d_C_longestUseOfCeiling_41 (by decide) ?_
        exact ih (i + 1) (imax v3 (st (5 + 2 * j1 + 1) i)) ls (by omega) (lv_sub hl [2, 3, 4, 1, 0] rfl) he
  have he := f_C_longestUseOfCeiling.eq_1 st j1 p2
  refine lv_iconst (v := 0) hx hb d_C_longestUseOfCeiling_0 (by decide) ?_
  refine lv_istore_n hx hb d_C_longestUseOfCeiling_1 rfl hl (by decide) rfl (fun ls hl => ?_)
  have hl : lv_has ls 5 [(3, .int 0), (0, .ref (ad 0)), (1, .ref (ad (5 + 2 * j1))), (2, .int p2)] := hl
  refine lv_iconst (v := 0) hx hb d_C_longestUseOfCeiling_2 (by decide) ?_
  refine lv_istore hx hb d_C_longestUseOfCeiling_3 hl (by decide) rfl (fun ls hl => ?_)
  have hl : lv_has ls 5 [(4, .int 0), (3, .int 0), (0, .ref (ad 0)), (1, .ref (ad (5 + 2 * j1))), (2, .int p2)] := hl
  exact L5 6 0 0 ls (by first | decide | omega) (lv_sub hl [2, 3, 4, 1, 0] rfl) he
set_option maxHeartbeats 4000000 in
set_option maxRecDepth 100000 in
theorem c_C_longestBlockingAt (l : Launch) (D : va_G) (cI cT cH : ClassId) (ad : Nat → Nat) (st : St) (p1 : Int32) : Met l y_C_longestBlockingAt w_C_longestBlockingAt { frames := 2, cells := 0, slots := 0, locals := 45 } (va_Pc [.ref (ad 0), .int p1] (gW D cI cT cH (cw cI cT cH ad st))) (QcRead (f_C_longestBlockingAt st p1)) 0 0 (fun _ => False) := by
  refine Met.ofW (cc := b_C_longestBlockingAt) (maxL := 4) (ret := (some .int)) (by decide +kernel) rfl ?_
  intro p e s m args below meth c s₁ B hml hv
  obtain ⟨rfl, hP, hK, hN⟩ := hv
  have hx := B.exec
  have hb := B.bytes
  have hr := B.returns
  have hlocks := B.notSynchronized
  have hts0 := atoms_spec (ws := w_C_longestBlockingAt) B.pre
  have hts : ∀ w ∈ TT, w.before [.ref (ad 0), .int p1].toArray s = true := fun w h => hts0 w (List.mem_cons_of_mem _ h)
  have hown : s.vm.findClass R_C = some m.cls := findClass_of_methodNamed B.named
  have hl := lv_entry ([.ref (ad 0), .int p1]) (n := 4) (Nat.le_of_ble_eq_true rfl)
  rw [lg_entry_eq]
  generalize (lg_sl ([.ref (ad 0), .int p1]) ++ List.replicate (4 - (lg_sl ([.ref (ad 0), .int p1])).length) Slot.unset).toArray = ls at hl ⊢
  have hl : lv_has ls 4 [(0, .ref (ad 0)), (1, .int p1)] := hl
  have L4 : ∀ (n i : Nat) (v2 : Int32) (ls : Array Slot), i + n = 8 → lv_has ls 4 [(0, .ref (ad 0)), (1, .int p1), (2, .int v2), (3, .int (nI i))] → f_C_longestBlockingAt st p1 = f_C_longestBlockingAt_L4 n i st p1 v2 → W p l e (headSpec w_C_longestBlockingAt { frames := 2, cells := 0, slots := 0, locals := 45 }).room s m [.ref (ad 0), .int p1].toArray below meth c s.heap [] 0 0 (MQ below (QcRead (f_C_longestBlockingAt st p1)) [.ref (ad 0), .int p1].toArray s 0 0 (fun _ => False)) (F0 m 4 ls []) := by
    intro n
    induction n with
    | zero =>
      intro i v2 ls hcnt hl he
      have hz : i = 8 := by omega
      subst hz
      rw [f_C_longestBlockingAt_L4] at he
      refine lv_iload_n hx hb d_C_longestBlockingAt_4 rfl (lv_at hl 3 rfl) ?_
      refine lv_bipush (v := 8) hx hb d_C_longestBlockingAt_5 (by decide) ?_
      refine lv_icmp_ge (tgt := 45) hx hb d_C_longestBlockingAt_7 (by decide) (fun _ => ?_) (fun h9 => absurd (by decide) h9)
      refine lv_iload_n hx hb d_C_longestBlockingAt_45 rfl (lv_at hl 2 rfl) ?_
      exact W.iret (v := v2) hx hb hr (fun t ht _ => ⟨by rw [he], ht⟩) (fun _ h => nomatch h) d_C_longestBlockingAt_46
    | succ n ih =>
      intro i v2 ls hcnt hl he
      have hi8 : i < 8 := by omega
      rw [f_C_longestBlockingAt_L4] at he
      refine lv_iload_n hx hb d_C_longestBlockingAt_4 rfl (lv_at hl 3 rfl) ?_
      refine lv_bipush (v := 8) hx hb d_C_longestBlockingAt_5 (by decide) ?_
      refine lv_icmp_ge (tgt := 45) hx hb d_C_longestBlockingAt_7 (by decide) (fun h9 => absurd h9 (nlt_8 hi8)) (fun _ => ?_)
      refine lv_aload_n hx hb d_C_longestBlockingAt_10 rfl (lv_at hl 0 rfl) ?_
      refine va_get (D := D) (ci := 0) (v := .ref (ad 1)) (C := R_C) (T := F_C) (N := 7) hx hb hts in_C hown hK hP 0 cw_0 rfl 0 (by decide) (hts _ k_129) (fun _ h9 => h9) rfl d_C_longestBlockingAt_11 ?_
      refine lv_iload_n hx hb d_C_longestBlockingAt_14 rfl (lv_at hl 3 rfl) ?_
      have hi1 : vp_in (nI i) 8 := (vp_in_nI (by omega) (by decide))
      refine va_aldq hx hb hK hP 1 1 cw_1 rfl hi1 d_C_longestBlockingAt_15 ?_
      have hj2 : (nI i).toNatClampNeg < 8 := vi_lt hi1
      rw [show (nI i).toNatClampNeg = i from nI_clamp (by omega)]
      rw [show (nI i).toNatClampNeg = i from nI_clamp (by omega)] at hj2
      refine W.eq (g2 := F0 m 16 ls [.ref (ad (5 + 2 * i))]) rfl ?_
      refine va_getN (D := D) (ci := 1) (v := .int (st (5 + 2 * i) 0)) (C := R_T) (T := F_T) (N := 10) hx hb hts in_T hown hK hP (5 + 2 * i) (cw_k hj2) rfl 0 (by decide) (va_Nw.use rfl (hN _ nk_C_64)) (fun _ h9 => h9) rfl d_C_longestBlockingAt_16 ?_
      refine lv_iload_n hx hb d_C_longestBlockingAt_19 rfl (lv_at hl 1 rfl) ?_
      refine lv_icmp_ge (tgt := 39) hx hb d_C_longestBlockingAt_20 (by decide) (fun hc3 => ?_) (fun hc3 => ?_)
      · have he := he.trans (if_pos hc3)
        refine lv_iinc (k := 3) (v := (nI (i + 1))) hx hb d_C_longestBlockingAt_39 hl rfl (by first | rfl | (rw [nI_succ]; rfl)) (by decide) rfl (fun ls hl => ?_)
        have hl : lv_has ls 4 [(3, .int (nI (i + 1))), (0, .ref (ad 0)), (1, .int p1), (2, .int v2)] := hl
        refine lv_goto (tgt := 4) hx hb d_C_longestBlockingAt_42 (by decide) ?_
        exact ih (i + 1) v2 ls (by omega) (lv_sub hl [1, 2, 3, 0] rfl) he
      · have he := he.trans (if_neg hc3)
        refine lv_iload_n hx hb d_C_longestBlockingAt_23 rfl (lv_at hl 2 rfl) ?_
        refine lv_aload_n hx hb d_C_longestBlockingAt_24 rfl (lv_at hl 0 rfl) ?_
        refine lv_aload_n hx hb d_C_longestBlockingAt_25 rfl (lv_at hl 0 rfl) ?_
        refine va_get (D := D) (ci := 0) (v := .ref (ad 1)) (C := R_C) (T := F_C) (N := 7) hx hb hts in_C hown hK hP 0 cw_0 rfl 0 (by decide) (hts _ k_129) (fun _ h9 => h9) rfl d_C_longestBlockingAt_26 ?_
        refine lv_iload_n hx hb d_C_longestBlockingAt_29 rfl (lv_at hl 3 rfl) ?_
        have hi4 : vp_in (nI i) 8 := (vp_in_nI (by omega) (by decide))
        refine va_aldq hx hb hK hP 1 1 cw_1 rfl hi4 d_C_longestBlockingAt_30 ?_
        have hj5 : (nI i).toNatClampNeg < 8 := vi_lt hi4
        rw [show (nI i).toNatClampNeg = i from nI_clamp (by omega)]
        rw [show (nI i).toNatClampNeg = i from nI_clamp (by omega)] at hj5
        refine W.eq (g2 := F0 m 31 ls [.ref (ad (5 + 2 * i)), .ref (ad 0), .int v2]) rfl ?_
        refine lv_iload_n hx hb d_C_longestBlockingAt_31 rfl (lv_at hl 1 rfl) ?_
        refine rdV (As := [.ref (ad (5 + 2 * i)), .int p1]) (rest := [.int v2]) (na := 2) (c_C_longestUseOfCeiling l D cI cT cH ad st i p1 hj5) ⟨hx, hb, hml, hown, hts⟩ k_205 k_207 k_3 k_24 k_208 (by decide +kernel) (by decide) (by decide) hP hK hN (q0 := 0) (ci := 0) cw_0 rfl rfl hl.1 rfl (Nat.le_of_ble_eq_true rfl) d_C_longestBlockingAt_32 ?_
        refine va_mmax hx hb (hml.trans hl.1.symm) hown (hts _ k_209) (hts _ k_210) (hts _ k_34) (hts _ k_211) (Nat.le_of_ble_eq_true rfl) (Nat.le_of_ble_eq_true rfl) (Nat.le_of_ble_eq_true rfl) (Nat.le_of_ble_eq_true rfl) d_C_longestBlockingAt_35 ?_
        refine W.eq (g2 := F0 m 38 ls [.int (imax v2 (f_C_longestUseOfCeiling st i p1))]) rfl ?_
        refine lv_istore_n hx hb d_C_longestBlockingAt_38 rfl hl (by decide) rfl (fun ls hl => ?_)
        have hl : lv_has ls 4 [(2, .int (imax v2 (f_C_longestUseOfCeiling st i p1))), (0, .ref (ad 0)), (1, .int p1), (3, .int (nI i))] := hl
        refine lv_iinc (k := 3) (v := (nI (i + 1))) hx hb d_C_longestBlockingAt_39 hl rfl (by first | rfl | (rw [nI_succ]; rfl)) (by decide) rfl (fun ls hl => ?_)
        have hl : lv_has ls 4 [(3, .int (nI (i + 1))), (2, .int (imax v2 (f_C_longestUseOfCeiling st i p1))), (0, .ref (ad 0)), (1, .int p1)] := hl
        refine lv_goto (tgt := 4) hx hb d_C_longestBlockingAt_42 (by decide) ?_
        exact ih (i + 1) (imax v2 (f_C_longestUseOfCeiling st i p1)) ls (by omega) (lv_sub hl [2, 3, 1, 0] rfl) he
  have he := f_C_longestBlockingAt.eq_1 st p1
  refine lv_iconst (v := 0) hx hb d_C_longestBlockingAt_0 (by decide) ?_
  refine lv_istore_n hx hb d_C_longestBlockingAt_1 rfl hl (by decide) rfl (fun ls hl => ?_)
  have hl : lv_has ls 4 [(2, .int 0), (0, .ref (ad 0)), (1, .int p1)] := hl
  refine lv_iconst (v := 0) hx hb d_C_longestBlockingAt_2 (by decide) ?_
  refine lv_istore_n hx hb d_C_longestBlockingAt_3 rfl hl (by decide) rfl (fun ls hl => ?_)
  have hl : lv_has ls 4 [(3, .int 0), (2, .int 0), (0, .ref (ad 0)), (1, .int p1)] := hl
  exact L4 8 0 0 ls (by first | decide | omega) (lv_sub hl [2, 3, 1, 0] rfl) he
set_option maxHeartbeats 4000000 in
set_option maxRecDepth 100000 in
theorem c_C_demandOfOthers (l : Launch) (D : va_G) (cI cT cH : ClassId) (ad : Nat → Nat) (st : St) (p1 : Int32) (p2 : Int32) (hy0 : vp_in p1 8) : Met l y_C_demandOfOthers w_C_demandOfOthers { frames := 2, cells := 0, slots := 0, locals := 41 } (va_Pc [.ref (ad 0), .int p1, .int p2] (gW D cI cT cH (cw cI cT cH ad st))) (QcRead (f_C_demandOfOthers st p1 p2)) 0 0 (fun _ => False) := by
  refine Met.ofW (cc := b_C_demandOfOthers) (maxL := 5) (ret := (some .int)) (by decide +kernel) rfl ?_
  intro p e s m args below meth c s₁ B hml hv
  obtain ⟨rfl, hP, hK, hN⟩ := hv
  have hx := B.exec
  have hb := B.bytes
  have hr := B.returns
  have hlocks := B.notSynchronized
  have hts0 := atoms_spec (ws := w_C_demandOfOthers) B.pre
  have hts : ∀ w ∈ TT, w.before [.ref (ad 0), .int p1, .int p2].toArray s = true := fun w h => hts0 w (List.mem_cons_of_mem _ h)
  have hown : s.vm.findClass R_C = some m.cls := findClass_of_methodNamed B.named
  have hl := lv_entry ([.ref (ad 0), .int p1, .int p2]) (n := 5) (Nat.le_of_ble_eq_true rfl)
  rw [lg_entry_eq]
  generalize (lg_sl ([.ref (ad 0), .int p1, .int p2]) ++ List.replicate (5 - (lg_sl ([.ref (ad 0), .int p1, .int p2])).length) Slot.unset).toArray = ls at hl ⊢
  have hl : lv_has ls 5 [(0, .ref (ad 0)), (1, .int p1), (2, .int p2)] := hl
  have L5 : ∀ (n i : Nat) (v3 : Int32) (ls : Array Slot), i + n = 8 → lv_has ls 5 [(0, .ref (ad 0)), (1, .int p1), (2, .int p2), (3, .int v3), (4, .int (nI i))] → f_C_demandOfOthers st p1 p2 = f_C_demandOfOthers_L5 n i st p1 p2 v3 → W p l e (headSpec w_C_demandOfOthers { frames := 2, cells := 0, slots := 0, locals := 41 }).room s m [.ref (ad 0), .int p1, .int p2].toArray below meth c s.heap [] 0 0 (MQ below (QcRead (f_C_demandOfOthers st p1 p2)) [.ref (ad 0), .int p1, .int p2].toArray s 0 0 (fun _ => False)) (F0 m 5 ls []) := by
    intro n
    induction n with
    | zero =>
      intro i v3 ls hcnt hl he
      have hz : i = 8 := by omega
      subst hz
      rw [f_C_demandOfOthers_L5] at he
      refine lv_iload hx hb d_C_demandOfOthers_5 (lv_at hl 4 rfl) ?_
      refine lv_bipush (v := 8) hx hb d_C_demandOfOthers_7 (by decide) ?_
      refine lv_icmp_ge (tgt := 60) hx hb d_C_demandOfOthers_9 (by decide) (fun _ => ?_) (fun h9 => absurd (by decide) h9)
      refine lv_iload_n hx hb d_C_demandOfOthers_60 rfl (lv_at hl 3 rfl) ?_
      exact W.iret (v := v3) hx hb hr (fun t ht _ => ⟨by rw [he], ht⟩) (fun _ h => nomatch h) d_C_demandOfOthers_61
    | succ n ih =>
      intro i v3 ls hcnt hl he
      have hi8 : i < 8 := by omega
      rw [f_C_demandOfOthers_L5] at he
      refine lv_iload hx hb d_C_demandOfOthers_5 (lv_at hl 4 rfl) ?_
      refine lv_bipush (v := 8) hx hb d_C_demandOfOthers_7 (by decide) ?_
      refine lv_icmp_ge (tgt := 60) hx hb d_C_demandOfOthers_9 (by decide) (fun h9 => absurd h9 (nlt_8 hi8)) (fun _ => ?_)
      refine lv_iload hx hb d_C_demandOfOthers_12 (lv_at hl 4 rfl) ?_
      refine lv_iload_n hx hb d_C_demandOfOthers_14 rfl (lv_at hl 1 rfl) ?_
      refine lv_icmp_eq (tgt := 54) hx hb d_C_demandOfOthers_15 (by decide) (fun hc1 => ?_) (fun hc1 => ?_)
      · have he := he.trans (if_pos hc1)
        refine lv_iinc (k := 4) (v := (nI (i + 1))) hx hb d_C_demandOfOthers_54 hl rfl (by first | rfl | (rw [nI_succ]; rfl)) (by decide) rfl (fun ls hl => ?_)
        have hl : lv_has ls 5 [(4, .int (nI (i + 1))), (0, .ref (ad 0)), (1, .int p1), (2, .int p2), (3, .int v3)] := hl
        refine lv_goto (tgt := 5) hx hb d_C_demandOfOthers_57 (by decide) ?_
        exact ih (i + 1) v3 ls (by omega) (lv_sub hl [1, 2, 3, 4, 0] rfl) he
      · have he := he.trans (if_neg hc1)
        refine lv_aload_n hx hb d_C_demandOfOthers_18 rfl (lv_at hl 0 rfl) ?_
        refine va_get (D := D) (ci := 0) (v := .ref (ad 1)) (C := R_C) (T := F_C) (N := 7) hx hb hts in_C hown hK hP 0 cw_0 rfl 0 (by decide) (hts _ k_129) (fun _ h9 => h9) rfl d_C_demandOfOthers_19 ?_
        refine lv_iload hx hb d_C_demandOfOthers_22 (lv_at hl 4 rfl) ?_
        have hi2 : vp_in (nI i) 8 := (vp_in_nI (by omega) (by decide))
        refine va_aldq hx hb hK hP 1 1 cw_1 rfl hi2 d_C_demandOfOthers_24 ?_
        have hj3 : (nI i).toNatClampNeg < 8 := vi_lt hi2
        rw [show (nI i).toNatClampNeg = i from nI_clamp (by omega)]
        rw [show (nI i).toNatClampNeg = i from nI_clamp (by omega)] at hj3
        refine W.eq (g2 := F0 m 25 ls [.ref (ad (5 + 2 * i))]) rfl ?_
        refine va_getN (D := D) (ci := 1) (v := .int (st (5 + 2 * i) 0)) (C := R_T) (T := F_T) (N := 10) hx hb hts in_T hown hK hP (5 + 2 * i) (cw_k hj3) rfl 0 (by decide) (va_Nw.use rfl (hN _ nk_C_64)) (fun _ h9 => h9) rfl d_C_demandOfOthers_25 ?_
        refine lv_aload_n hx hb d_C_demandOfOthers_28 rfl (lv_at hl 0 rfl) ?_
        refine va_get (D := D) (ci := 0) (v := .ref (ad 1)) (C := R_C) (T := F_C) (N := 7) hx hb hts in_C hown hK hP 0 cw_0 rfl 0 (by decide) (hts _ k_129) (fun _ h9 => h9) rfl d_C_demandOfOthers_29 ?_
        refine lv_iload_n hx hb d_C_demandOfOthers_32 rfl (lv_at hl 1 rfl) ?_
        have hi4 : vp_in p1 8 := (by first | with_reducible assumption | exact vi_isIn7 (by with_reducible assumption) | exact vi_isThing (by with_reducible assumption) | exact vi_decl (by with_reducible assumption) | exact vi_ready (by with_reducible assumption) | exact vi_run (by with_reducible assumption) (by with_reducible assumption) | exact vi_run (by with_reducible assumption) (vi_runner _) | exact vi_mTask (by with_reducible assumption) | exact vi_mThing (by with_reducible assumption) | exact vi_mdecl (by with_reducible assumption) | exact vi_mready (by with_reducible assumption))
        refine va_aldq hx hb hK hP 1 1 cw_1 rfl hi4 d_C_demandOfOthers_33 ?_
        have hj5 : p1.toNatClampNeg < 8 := vi_lt hi4
        refine W.eq (g2 := F0 m 34 ls [.ref (ad (5 + 2 * p1.toNatClampNeg)), .int (st (5 + 2 * i) 0)]) rfl ?_
        refine va_getN (D := D) (ci := 1) (v := .int (st (5 + 2 * p1.toNatClampNeg) 0)) (C := R_T) (T := F_T) (N := 10) hx hb hts in_T hown hK hP (5 + 2 * p1.toNatClampNeg) (cw_k hj5) rfl 0 (by decide) (va_Nw.use rfl (hN _ nk_C_64)) (fun _ h9 => h9) rfl d_C_demandOfOthers_34 ?_
        refine lv_icmp_lt (tgt := 54) hx hb d_C_demandOfOthers_37 (by decide) (fun hc6 => ?_) (fun hc6 => ?_)
        · have he := he.trans (if_pos hc6)
          refine lv_iinc (k := 4) (v := (nI (i + 1))) hx hb d_C_demandOfOthers_54 hl rfl (by first | rfl | (rw [nI_succ]; rfl)) (by decide) rfl (fun ls hl => ?_)
          have hl : lv_has ls 5 [(4, .int (nI (i + 1))), (0, .ref (ad 0)), (1, .int p1), (2, .int p2), (3, .int v3)] := hl
          refine lv_goto (tgt := 5) hx hb d_C_demandOfOthers_57 (by decide) ?_
          exact ih (i + 1) v3 ls (by omega) (lv_sub hl [1, 2, 3, 4, 0] rfl) he
        · have he := he.trans (if_neg hc6)
          refine lv_iload_n hx hb d_C_demandOfOthers_40 rfl (lv_at hl 3 rfl) ?_
          refine lv_aload_n hx hb d_C_demandOfOthers_41 rfl (lv_at hl 0 rfl) ?_
          refine va_get (D := D) (ci := 0) (v := .ref (ad 1)) (C := R_C) (T := F_C) (N := 7) hx hb hts in_C hown hK hP 0 cw_0 rfl 0 (by decide) (hts _ k_129) (fun _ h9 => h9) rfl d_C_demandOfOthers_42 ?_
          refine lv_iload hx hb d_C_demandOfOthers_45 (lv_at hl 4 rfl) ?_
          have hi7 : vp_in (nI i) 8 := (vp_in_nI (by omega) (by decide))
          refine va_aldq hx hb hK hP 1 1 cw_1 rfl hi7 d_C_demandOfOthers_47 ?_
          have hj8 : (nI i).toNatClampNeg < 8 := vi_lt hi7
          rw [show (nI i).toNatClampNeg = i from nI_clamp (by omega)]
          rw [show (nI i).toNatClampNeg = i from nI_clamp (by omega)] at hj8
          refine W.eq (g2 := F0 m 48 ls [.ref (ad (5 + 2 * i)), .int v3]) rfl ?_
          refine lv_iload_n hx hb d_C_demandOfOthers_48 rfl (lv_at hl 2 rfl) ?_
          refine rdV (As := [.int p2]) (rest := [.int v3]) (na := 1) (c_T_demandIn l D cI cT cH ad st i p2 hj8) ⟨hx, hb, hml, hown, hts⟩ k_220 k_221 k_222 k_26 k_223 (by decide +kernel) (by decide) (by decide) hP hK hN (q0 := (5 + 2 * i)) (ci := 1) (cw_k hj8) rfl rfl hl.1 rfl (Nat.le_of_ble_eq_true rfl) d_C_demandOfOthers_49 ?_
          refine lv_iadd hx hb d_C_demandOfOthers_52 ?_
          refine lv_istore_n hx hb d_C_demandOfOthers_53 rfl hl (by decide) rfl (fun ls hl => ?_)
          have hl : lv_has ls 5 [(3, .int (v3 + (f_T_demandIn st i p2))), (0, .ref (ad 0)), (1, .int p1), (2, .int p2), (4, .int (nI i))] := hl
          refine lv_iinc (k := 4) (v := (nI (i + 1))) hx hb d_C_demandOfOthers_54 hl rfl (by first | rfl | (rw [nI_succ]; rfl)) (by decide) rfl (fun ls hl => ?_)
          have hl : lv_has ls 5 [(4, .int (nI (i + 1))), (3, .int (v3 + (f_T_demandIn st i p2))), (0, .ref (ad 0)), (1, .int p1), (2, .int p2)] := hl
          refine lv_goto (tgt := 5) hx hb d_C_demandOfOthers_57 (by decide) ?_
          exact ih (i + 1) (v3 + (f_T_demandIn st i p2)) ls (by omega) (lv_sub hl [2, 3, 4, 1, 0] rfl) he
  have he := f_C_demandOfOthers.eq_1 st p1 p2
  refine lv_iconst (v := 0) hx hb d_C_demandOfOthers_0 (by decide) ?_
  refine lv_istore_n hx hb d_C_demandOfOthers_1 rfl hl (by decide) rfl (fun ls hl => ?_)
  have hl : lv_has ls 5 [(3, .int 0), (0, .ref (ad 0)), (1, .int p1), (2, .int p2)] := hl
  refine lv_iconst (v := 0) hx hb d_C_demandOfOthers_2 (by decide) ?_
  refine lv_istore hx hb d_C_demandOfOthers_3 hl (by decide) rfl (fun ls hl => ?_)
  have hl : lv_has ls 5 [(4, .int 0), (3, .int 0), (0, .ref (ad 0)), (1, .int p1), (2, .int p2)] := hl
  exact L5 8 0 0 ls (by first | decide | omega) (lv_sub hl [2, 3, 4, 1, 0] rfl) he
end
section
set_option maxHeartbeats 4000000 in
set_option maxRecDepth 100000 in
theorem c_C_running (l : Launch) (D : va_G) (cI cT cH : ClassId) (ad : Nat → Nat) (st : St) : Met l y_C_running w_C_running { frames := 0, cells := 0, slots := 0, locals := 0 } (va_Pc [.ref (ad 0)] (gW D cI cT cH (cw cI cT cH ad st))) (QcRead (f_C_running st)) 0 0 (fun _ => False) := by
  refine Met.ofW (cc := b_C_running) (maxL := 1) (ret := (some .int)) (by decide +kernel) rfl ?_
  intro p e s m args below meth c s₁ B hml hv
  obtain ⟨rfl, hP, hK, hN⟩ := hv
  have hx := B.exec
  have hb := B.bytes
  have hr := B.returns
  have hlocks := B.notSynchronized
  have hts0 := atoms_spec (ws := w_C_running) B.pre
  have hts : ∀ w ∈ TT, w.before [.ref (ad 0)].toArray s = true := fun w h => hts0 w (List.mem_cons_of_mem _ h)
  have hown : s.vm.findClass R_C = some m.cls := findClass_of_methodNamed B.named
  have hl := lv_entry ([.ref (ad 0)]) (n := 1) (Nat.le_of_ble_eq_true rfl)
  rw [lg_entry_eq]
  generalize (lg_sl ([.ref (ad 0)]) ++ List.replicate (1 - (lg_sl ([.ref (ad 0)])).length) Slot.unset).toArray = ls at hl ⊢
  have hl : lv_has ls 1 [(0, .ref (ad 0))] := hl
  have he := f_C_running.eq_1 st
  refine lv_aload_n hx hb d_C_running_0 rfl (lv_at hl 0 rfl) ?_
  refine va_get (D := D) (ci := 0) (v := .int (st 0 6)) (C := R_C) (T := F_C) (N := 7) hx hb hts in_C hown hK hP 0 cw_0 rfl 6 (by decide) (hts _ k_135) (fun _ h9 => h9) rfl d_C_running_1 ?_
  exact W.iret (v := (st 0 6)) hx hb hr (fun t ht _ => ⟨by rw [he], ht⟩) (fun _ h => nomatch h) d_C_running_4
set_option maxHeartbeats 4000000 in
set_option maxRecDepth 100000 in
theorem c_C_priority (l : Launch) (D : va_G) (cI cT cH : ClassId) (ad : Nat → Nat) (st : St) (p1 : Int32) : Met l y_C_priority w_C_priority { frames := 2, cells := 0, slots := 0, locals := 43 } (va_Pc [.ref (ad 0), .int p1] (gW D cI cT cH (cw cI cT cH ad st))) (QcRead (f_C_priority st p1)) 0 0 (fun _ => False) := by
  refine Met.ofW (cc := b_C_priority) (maxL := 2) (ret := (some .int)) (by decide +kernel) rfl ?_
  intro p e s m args below meth c s₁ B hml hv
  obtain ⟨rfl, hP, hK, hN⟩ := hv
  have hx := B.exec
  have hb := B.bytes
  have hr := B.returns
  have hlocks := B.notSynchronized
  have hts0 := atoms_spec (ws := w_C_priority) B.pre
  have hts : ∀ w ∈ TT, w.before [.ref (ad 0), .int p1].toArray s = true := fun w h => hts0 w (List.mem_cons_of_mem _ h)
  have hown : s.vm.findClass R_C = some m.cls := findClass_of_methodNamed B.named
  have hl := lv_entry ([.ref (ad 0), .int p1]) (n := 2) (Nat.le_of_ble_eq_true rfl)
  rw [lg_entry_eq]
  generalize (lg_sl ([.ref (ad 0), .int p1]) ++ List.replicate (2 - (lg_sl ([.ref (ad 0), .int p1])).length) Slot.unset).toArray = ls at hl ⊢
  have hl : lv_has ls 2 [(0, .ref (ad 0)), (1, .int p1)] := hl
  have he := f_C_priority.eq_1 st p1
  refine lv_aload_n hx hb d_C_priority_0 rfl (lv_at hl 0 rfl) ?_
  refine lv_iload_n hx hb d_C_priority_1 rfl (lv_at hl 1 rfl) ?_
  refine rdV (As := [.int p1]) (rest := []) (na := 1) (c_C_isDeclared l D cI cT cH ad st p1 ) ⟨hx, hb, hml, hown, hts⟩ k_159 k_161 k_0 k_24 k_162 (by decide +kernel) (by decide) (by decide) hP hK hN (q0 := 0) (ci := 0) cw_0 rfl rfl hl.1 rfl (Nat.le_of_ble_eq_true rfl) d_C_priority_2 ?_
  refine lv_if_ne (tgt := 10) hx hb d_C_priority_5 (by decide) (fun hc1 => ?_) (fun hc1 => ?_)
  · have he := he.trans (if_neg hc1)
    refine lv_aload_n hx hb d_C_priority_10 rfl (lv_at hl 0 rfl) ?_
    refine va_get (D := D) (ci := 0) (v := .ref (ad 1)) (C := R_C) (T := F_C) (N := 7) hx hb hts in_C hown hK hP 0 cw_0 rfl 0 (by decide) (hts _ k_129) (fun _ h9 => h9) rfl d_C_priority_11 ?_
    refine lv_iload_n hx hb d_C_priority_14 rfl (lv_at hl 1 rfl) ?_
    have hi2 : vp_in p1 8 := (by first | with_reducible assumption | exact vi_isIn7 (by with_reducible assumption) | exact vi_isThing (by with_reducible assumption) | exact vi_decl (by with_reducible assumption) | exact vi_ready (by with_reducible assumption) | exact vi_run (by with_reducible assumption) (by with_reducible assumption) | exact vi_run (by with_reducible assumption) (vi_runner _) | exact vi_mTask (by with_reducible assumption) | exact vi_mThing (by with_reducible assumption) | exact vi_mdecl (by with_reducible assumption) | exact vi_mready (by with_reducible assumption))
    refine va_aldq hx hb hK hP 1 1 cw_1 rfl hi2 d_C_priority_15 ?_
    have hj3 : p1.toNatClampNeg < 8 := vi_lt hi2
    refine W.eq (g2 := F0 m 16 ls [.ref (ad (5 + 2 * p1.toNatClampNeg))]) rfl ?_
    refine va_getN (D := D) (ci := 1) (v := .int (st (5 + 2 * p1.toNatClampNeg) 4)) (C := R_T) (T := F_T) (N := 10) hx hb hts in_T hown hK hP (5 + 2 * p1.toNatClampNeg) (cw_k hj3) rfl 4 (by decide) (va_Nw.use rfl (hN _ nk_C_146)) (fun _ h9 => h9) rfl d_C_priority_16 ?_
    refine lv_if_eq (tgt := 34) hx hb d_C_priority_19 (by decide) (fun hc4 => ?_) (fun hc4 => ?_)
    · have he := he.trans (if_pos hc4)
      refine lv_aload_n hx hb d_C_priority_34 rfl (lv_at hl 0 rfl) ?_
      refine va_get (D := D) (ci := 0) (v := .ref (ad 1)) (C := R_C) (T := F_C) (N := 7) hx hb hts in_C hown hK hP 0 cw_0 rfl 0 (by decide) (hts _ k_129) (fun _ h9 => h9) rfl d_C_priority_35 ?_
      refine lv_iload_n hx hb d_C_priority_38 rfl (lv_at hl 1 rfl) ?_
      have hi5 : vp_in p1 8 := (by first | with_reducible assumption | exact vi_isIn7 (by with_reducible assumption) | exact vi_isThing (by with_reducible assumption) | exact vi_decl (by with_reducible assumption) | exact vi_ready (by with_reducible assumption) | exact vi_run (by with_reducible assumption) (by with_reducible assumption) | exact vi_run (by with_reducible assumption) (vi_runner _) | exact vi_mTask (by with_reducible assumption) | exact vi_mThing (by with_reducible assumption) | exact vi_mdecl (by with_reducible assumption) | exact vi_mready (by with_reducible assumption))
      refine va_aldq hx hb hK hP 1 1 cw_1 rfl hi5 d_C_priority_39 ?_
      have hj6 : p1.toNatClampNeg < 8 := vi_lt hi5
      refine W.eq (g2 := F0 m 40 ls [.ref (ad (5 + 2 * p1.toNatClampNeg))]) rfl ?_
      refine va_getN (D := D) (ci := 1) (v := .int (st (5 + 2 * p1.toNatClampNeg) 0)) (C := R_T) (T := F_T) (N := 10) hx hb hts in_T hown hK hP (5 + 2 * p1.toNatClampNeg) (cw_k hj6) rfl 0 (by decide) (va_Nw.use rfl (hN _ nk_C_64)) (fun _ h9 => h9) rfl d_C_priority_40 ?_
      exact W.iret (v := (st (5 + 2 * p1.toNatClampNeg) 0)) hx hb hr (fun t ht _ => ⟨by rw [he], ht⟩) (fun _ h => nomatch h) d_C_priority_43
    · have he := he.trans (if_neg hc4)
      refine lv_aload_n hx hb d_C_priority_22 rfl (lv_at hl 0 rfl) ?_
      refine va_get (D := D) (ci := 0) (v := .ref (ad 1)) (C := R_C) (T := F_C) (N := 7) hx hb hts in_C hown hK hP 0 cw_0 rfl 0 (by decide) (hts _ k_129) (fun _ h9 => h9) rfl d_C_priority_23 ?_
      refine lv_iload_n hx hb d_C_priority_26 rfl (lv_at hl 1 rfl) ?_
      have hi7 : vp_in p1 8 := (by first | with_reducible assumption | exact vi_isIn7 (by with_reducible assumption) | exact vi_isThing (by with_reducible assumption) | exact vi_decl (by with_reducible assumption) | exact vi_ready (by with_reducible assumption) | exact vi_run (by with_reducible assumption) (by with_reducible assumption) | exact vi_run (by with_reducible assumption) (vi_runner _) | exact vi_mTask (by with_reducible assumption) | exact vi_mThing (by with_reducible assumption) | exact vi_mdecl (by with_reducible assumption) | exact vi_mready (by with_reducible assumption))
      refine va_aldq hx hb hK hP 1 1 cw_1 rfl hi7 d_C_priority_27 ?_
      have hj8 : p1.toNatClampNeg < 8 := vi_lt hi7
      refine W.eq (g2 := F0 m 28 ls [.ref (ad (5 + 2 * p1.toNatClampNeg))]) rfl ?_
      refine va_getN (D := D) (ci := 1) (v := .int (st (5 + 2 * p1.toNatClampNeg) 5)) (C := R_T) (T := F_T) (N := 10) hx hb hts in_T hown hK hP (5 + 2 * p1.toNatClampNeg) (cw_k hj8) rfl 5 (by decide) (va_Nw.use rfl (hN _ nk_C_128)) (fun _ h9 => h9) rfl d_C_priority_28 ?_
      refine lv_goto (tgt := 43) hx hb d_C_priority_31 (by decide) ?_
      exact W.iret (v := (st (5 + 2 * p1.toNatClampNeg) 5)) hx hb hr (fun t ht _ => ⟨by rw [he], ht⟩) (fun _ h => nomatch h) d_C_priority_43
  · have he := he.trans (if_pos hc1)
    refine lv_iconst (v := (-1)) hx hb d_C_priority_8 (by decide) ?_
    exact W.iret (v := (-1)) hx hb hr (fun t ht _ => ⟨by rw [he], ht⟩) (fun _ h => nomatch h) d_C_priority_9
set_option maxHeartbeats 4000000 in
set_option maxRecDepth 100000 in
theorem c_C_place (l : Launch) (D : va_G) (cI cT cH : ClassId) (ad : Nat → Nat) (st : St) (p1 : Int32) : Met l y_C_place w_C_place { frames := 2, cells := 0, slots := 0, locals := 43 } (va_Pc [.ref (ad 0), .int p1] (gW D cI cT cH (cw cI cT cH ad st))) (QcRead (f_C_place st p1)) 0 0 (fun _ => False) := by
  refine Met.ofW (cc := b_C_place) (maxL := 4) (ret := (some .int)) (by decide +kernel) rfl ?_
  intro p e s m args below meth c s₁ B hml hv
  obtain ⟨rfl, hP, hK, hN⟩ := hv
  have hx := B.exec
  have hb := B.bytes
  have hr := B.returns
  have hlocks := B.notSynchronized
  have hts0 := atoms_spec (ws := w_C_place) B.pre
  have hts : ∀ w ∈ TT, w.before [.ref (ad 0), .int p1].toArray s = true := fun w h => hts0 w (List.mem_cons_of_mem _ h)
  have hown : s.vm.findClass R_C = some m.cls := findClass_of_methodNamed B.named
  have hl := lv_entry ([.ref (ad 0), .int p1]) (n := 4) (Nat.le_of_ble_eq_true rfl)
  rw [lg_entry_eq]
  generalize (lg_sl ([.ref (ad 0), .int p1]) ++ List.replicate (4 - (lg_sl ([.ref (ad 0), .int p1])).length) Slot.unset).toArray = ls at hl ⊢
  have hl : lv_has ls 4 [(0, .ref (ad 0)), (1, .int p1)] := hl
  have L14 : ∀ (n i : Nat) (v2 : Int32) (ls : Array Slot), i + n = 8 → lv_has ls 4 [(0, .ref (ad 0)), (1, .int p1), (2, .int v2), (3, .int (nI i))] → (vp_in p1 8) → f_C_place st p1 = f_C_place_L14 n i st p1 v2 → W p l e (headSpec w_C_place { frames := 2, cells := 0, slots := 0, locals := 43 }).room s m [.ref (ad 0), .int p1].toArray below meth c s.heap [] 0 0 (MQ below (QcRead (f_C_place st p1)) [.ref (ad 0), .int p1].toArray s 0 0 (fun _ => False)) (F0 m 14 ls []) := by
    intro n
    induction n with
    | zero =>
      intro i v2 ls hcnt hl g0 he
      have hz : i = 8 := by omega
      subst hz
      rw [f_C_place_L14] at he
      refine lv_iload_n hx hb d_C_place_14 rfl (lv_at hl 3 rfl) ?_
      refine lv_bipush (v := 8) hx hb d_C_place_15 (by decide) ?_
      refine lv_icmp_ge (tgt := 59) hx hb d_C_place_17 (by decide) (fun _ => ?_) (fun h9 => absurd (by decide) h9)
      refine lv_iload_n hx hb d_C_place_59 rfl (lv_at hl 2 rfl) ?_
      exact W.iret (v := v2) hx hb hr (fun t ht _ => ⟨by rw [he], ht⟩) (fun _ h => nomatch h) d_C_place_60
    | succ n ih =>
      intro i v2 ls hcnt hl g0 he
      have hi8 : i < 8 := by omega
      rw [f_C_place_L14] at he
      refine lv_iload_n hx hb d_C_place_14 rfl (lv_at hl 3 rfl) ?_
      refine lv_bipush (v := 8) hx hb d_C_place_15 (by decide) ?_
      refine lv_icmp_ge (tgt := 59) hx hb d_C_place_17 (by decide) (fun h9 => absurd h9 (nlt_8 hi8)) (fun _ => ?_)
      refine lv_aload_n hx hb d_C_place_20 rfl (lv_at hl 0 rfl) ?_
      refine va_get (D := D) (ci := 0) (v := .ref (ad 1)) (C := R_C) (T := F_C) (N := 7) hx hb hts in_C hown hK hP 0 cw_0 rfl 0 (by decide) (hts _ k_129) (fun _ h9 => h9) rfl d_C_place_21 ?_
      refine lv_iload_n hx hb d_C_place_24 rfl (lv_at hl 3 rfl) ?_
      have hi1 : vp_in (nI i) 8 := (vp_in_nI (by omega) (by decide))
      refine va_aldq hx hb hK hP 1 1 cw_1 rfl hi1 d_C_place_25 ?_
      have hj2 : (nI i).toNatClampNeg < 8 := vi_lt hi1
      rw [show (nI i).toNatClampNeg = i from nI_clamp (by omega)]
      rw [show (nI i).toNatClampNeg = i from nI_clamp (by omega)] at hj2
      refine W.eq (g2 := F0 m 26 ls [.ref (ad (5 + 2 * i))]) rfl ?_
      refine va_getN (D := D) (ci := 1) (v := .int (st (5 + 2 * i) 4)) (C := R_T) (T := F_T) (N := 10) hx hb hts in_T hown hK hP (5 + 2 * i) (cw_k hj2) rfl 4 (by decide) (va_Nw.use rfl (hN _ nk_C_146)) (fun _ h9 => h9) rfl d_C_place_26 ?_
      refine lv_if_eq (tgt := 53) hx hb d_C_place_29 (by decide) (fun hc3 => ?_) (fun hc3 => ?_)
      · have he := he.trans (if_pos hc3)
        refine lv_iinc (k := 3) (v := (nI (i + 1))) hx hb d_C_place_53 hl rfl (by first | rfl | (rw [nI_succ]; rfl)) (by decide) rfl (fun ls hl => ?_)
        have hl : lv_has ls 4 [(3, .int (nI (i + 1))), (0, .ref (ad 0)), (1, .int p1), (2, .int v2)] := hl
        refine lv_goto (tgt := 14) hx hb d_C_place_56 (by decide) ?_
        exact ih (i + 1) v2 ls (by omega) (lv_sub hl [1, 2, 3, 0] rfl) (by first | with_reducible assumption | exact Or.inl rfl | exact (fun h9 => absurd h9 (by decide)) | exact (fun h9 => absurd rfl h9) | exact vi_runner _ | exact Or.inr (vp_in_nI (by omega) (by decide)) | exact Or.inr (by first | with_reducible assumption | exact vi_isIn7 (by with_reducible assumption) | exact vi_isThing (by with_reducible assumption) | exact vi_decl (by with_reducible assumption) | exact vi_ready (by with_reducible assumption) | exact vi_run (by with_reducible assumption) (by with_reducible assumption) | exact vi_run (by with_reducible assumption) (vi_runner _) | exact vi_mTask (by with_reducible assumption) | exact vi_mThing (by with_reducible assumption) | exact vi_mdecl (by with_reducible assumption) | exact vi_mready (by with_reducible assumption)) | exact (fun _ => ⟨(by first | with_reducible assumption | exact vi_isIn7 (by with_reducible assumption) | exact vi_isThing (by with_reducible assumption) | exact vi_decl (by with_reducible assumption) | exact vi_ready (by with_reducible assumption) | exact vi_run (by with_reducible assumption) (by with_reducible assumption) | exact vi_run (by with_reducible assumption) (vi_runner _) | exact vi_mTask (by with_reducible assumption) | exact vi_mThing (by with_reducible assumption) | exact vi_mdecl (by with_reducible assumption) | exact vi_mready (by with_reducible assumption)), (by first | with_reducible assumption | exact vi_isIn7 (by with_reducible assumption) | exact vi_isThing (by with_reducible assumption) | exact vi_decl (by with_reducible assumption) | exact vi_ready (by with_reducible assumption) | exact vi_run (by with_reducible assumption) (by with_reducible assumption) | exact vi_run (by with_reducible assumption) (vi_runner _) | exact vi_mTask (by with_reducible assumption) | exact vi_mThing (by with_reducible assumption) | exact vi_mdecl (by with_reducible assumption) | exact vi_mready (by with_reducible assumption))⟩) | exact (fun _ => ⟨vi_latest (by with_reducible assumption) (by with_reducible assumption), vi_run (by with_reducible assumption) (by with_reducible assumption)⟩) | exact (fun _ => (by with_reducible assumption : ¬ v4 = 0 → _) (by with_reducible assumption)) | exact (fun _ => (by first | with_reducible assumption | exact vi_isIn7 (by with_reducible assumption) | exact vi_isThing (by with_reducible assumption) | exact vi_decl (by with_reducible assumption) | exact vi_ready (by with_reducible assumption) | exact vi_run (by with_reducible assumption) (by with_reducible assumption) | exact vi_run (by with_reducible assumption) (vi_runner _) | exact vi_mTask (by with_reducible assumption) | exact vi_mThing (by with_reducible assumption) | exact vi_mdecl (by with_reducible assumption) | exact vi_mready (by with_reducible assumption))) | exact (by first | with_reducible assumption | exact vi_isIn7 (by with_reducible assumption) | exact vi_isThing (by with_reducible assumption) | exact vi_decl (by with_reducible assumption) | exact vi_ready (by with_reducible assumption) | exact vi_run (by with_reducible assumption) (by with_reducible assumption) | exact vi_run (by with_reducible assumption) (vi_runner _) | exact vi_mTask (by with_reducible assumption) | exact vi_mThing (by with_reducible assumption) | exact vi_mdecl (by with_reducible assumption) | exact vi_mready (by with_reducible assumption))) he
      · have he := he.trans (if_neg hc3)
        refine lv_aload_n hx hb d_C_place_32 rfl (lv_at hl 0 rfl) ?_
        refine va_get (D := D) (ci := 0) (v := .ref (ad 1)) (C := R_C) (T := F_C) (N := 7) hx hb hts in_C hown hK hP 0 cw_0 rfl 0 (by decide) (hts _ k_129) (fun _ h9 => h9) rfl d_C_place_33 ?_
        refine lv_iload_n hx hb d_C_place_36 rfl (lv_at hl 3 rfl) ?_
        have hi4 : vp_in (nI i) 8 := (vp_in_nI (by omega) (by decide))
        refine va_aldq hx hb hK hP 1 1 cw_1 rfl hi4 d_C_place_37 ?_
        have hj5 : (nI i).toNatClampNeg < 8 := vi_lt hi4
        rw [show (nI i).toNatClampNeg = i from nI_clamp (by omega)]
        rw [show (nI i).toNatClampNeg = i from nI_clamp (by omega)] at hj5
        refine W.eq (g2 := F0 m 38 ls [.ref (ad (5 + 2 * i))]) rfl ?_
        refine lv_aload_n hx hb d_C_place_38 rfl (lv_at hl 0 rfl) ?_
        refine va_get (D := D) (ci := 0) (v := .ref (ad 1)) (C := R_C) (T := F_C) (N := 7) hx hb hts in_C hown hK hP 0 cw_0 rfl 0 (by decide) (hts _ k_129) (fun _ h9 => h9) rfl d_C_place_39 ?_
        refine lv_iload_n hx hb d_C_place_42 rfl (lv_at hl 1 rfl) ?_
        have hi6 : vp_in p1 8 := (by first | with_reducible assumption | exact vi_isIn7 (by with_reducible assumption) | exact vi_isThing (by with_reducible assumption) | exact vi_decl (by with_reducible assumption) | exact vi_ready (by with_reducible assumption) | exact vi_run (by with_reducible assumption) (by with_reducible assumption) | exact vi_run (by with_reducible assumption) (vi_runner _) | exact vi_mTask (by with_reducible assumption) | exact vi_mThing (by with_reducible assumption) | exact vi_mdecl (by with_reducible assumption) | exact vi_mready (by with_reducible assumption))
        refine va_aldq hx hb hK hP 1 1 cw_1 rfl hi6 d_C_place_43 ?_
        have hj7 : p1.toNatClampNeg < 8 := vi_lt hi6
        refine W.eq (g2 := F0 m 44 ls [.ref (ad (5 + 2 * p1.toNatClampNeg)), .ref (ad (5 + 2 * i))]) rfl ?_
        refine rdV (As := [.ref (ad (5 + 2 * p1.toNatClampNeg))]) (rest := []) (na := 1) (c_T_goesBefore l D cI cT cH ad st i p1.toNatClampNeg hj5 hj7) ⟨hx, hb, hml, hown, hts⟩ k_178 k_179 k_180 k_26 k_181 (by decide +kernel) (by decide) (by decide) hP hK hN (q0 := (5 + 2 * i)) (ci := 1) (cw_k hj5) rfl rfl hl.1 rfl (Nat.le_of_ble_eq_true rfl) d_C_place_44 ?_
        refine lv_if_eq (tgt := 53) hx hb d_C_place_47 (by decide) (fun hc8 => ?_) (fun hc8 => ?_)
        · have he := he.trans (if_pos hc8)
          refine lv_iinc (k := 3) (v := (nI (i + 1))) hx hb d_C_place_53 hl rfl (by first | rfl | (rw [nI_succ]; rfl)) (by decide) rfl (fun ls hl => ?_)
          have hl : lv_has ls 4 [(3, .int (nI (i + 1))), (0, .ref (ad 0)), (1, .int p1), (2, .int v2)] := hl
          refine lv_goto (tgt := 14) hx hb d_C_place_56 (by decide) ?_
          exact ih (i + 1) v2 ls (by omega) (lv_sub hl [1, 2, 3, 0] rfl) (by first | with_reducible assumption | exact Or.inl rfl | exact (fun h9 => absurd h9 (by decide)) | exact (fun h9 => absurd rfl h9) | exact vi_runner _ | exact Or.inr (vp_in_nI (by omega) (by decide)) | exact Or.inr (by first | with_reducible assumption | exact vi_isIn7 (by with_reducible assumption) | exact vi_isThing (by with_reducible assumption) | exact vi_decl (by with_reducible assumption) | exact vi_ready (by with_reducible assumption) | exact vi_run (by with_reducible assumption) (by with_reducible assumption) | exact vi_run (by with_reducible assumption) (vi_runner _) | exact vi_mTask (by with_reducible assumption) | exact vi_mThing (by with_reducible assumption) | exact vi_mdecl (by with_reducible assumption) | exact vi_mready (by with_reducible assumption)) | exact (fun _ => ⟨(by first | with_reducible assumption | exact vi_isIn7 (by with_reducible assumption) | exact vi_isThing (by with_reducible assumption) | exact vi_decl (by with_reducible assumption) | exact vi_ready (by with_reducible assumption) | exact vi_run (by with_reducible assumption) (by with_reducible assumption) | exact vi_run (by with_reducible assumption) (vi_runner _) | exact vi_mTask (by with_reducible assumption) | exact vi_mThing (by with_reducible assumption) | exact vi_mdecl (by with_reducible assumption) | exact vi_mready (by with_reducible assumption)), (by first | with_reducible assumption | exact vi_isIn7 (by with_reducible assumption) | exact vi_isThing (by with_reducible assumption) | exact vi_decl (by with_reducible assumption) | exact vi_ready (by with_reducible assumption) | exact vi_run (by with_reducible assumption) (by with_reducible assumption) | exact vi_run (by with_reducible assumption) (vi_runner _) | exact vi_mTask (by with_reducible assumption) | exact vi_mThing (by with_reducible assumption) | exact vi_mdecl (by with_reducible assumption) | exact vi_mready (by with_reducible assumption))⟩) | exact (fun _ => ⟨vi_latest (by with_reducible assumption) (by with_reducible assumption), vi_run (by with_reducible assumption) (by with_reducible assumption)⟩) | exact (fun _ => (by with_reducible assumption : ¬ v4 = 0 → _) (by with_reducible assumption)) | exact (fun _ => (by first | with_reducible assumption | exact vi_isIn7 (by with_reducible assumption) | exact vi_isThing (by with_reducible assumption) | exact vi_decl (by with_reducible assumption) | exact vi_ready (by with_reducible assumption) | exact vi_run (by with_reducible assumption) (by with_reducible assumption) | exact vi_run (by with_reducible assumption) (vi_runner _) | exact vi_mTask (by with_reducible assumption) | exact vi_mThing (by with_reducible assumption) | exact vi_mdecl (by with_reducible assumption) | exact vi_mready (by with_reducible assumption))) | exact (by first | with_reducible assumption | exact vi_isIn7 (by with_reducible assumption) | exact vi_isThing (by with_reducible assumption) | exact vi_decl (by with_reducible assumption) | exact vi_ready (by with_reducible assumption) | exact vi_run (by with_reducible assumption) (by with_reducible assumption) | exact vi_run (by with_reducible assumption) (vi_runner _) | exact vi_mTask (by with_reducible assumption) | exact vi_mThing (by with_reducible assumption) | exact vi_mdecl (by with_reducible assumption) | exact vi_mready (by with_reducible assumption))) he
        · have he := he.trans (if_neg hc8)
          refine lv_iinc (k := 2) (v := (v2 + 1)) hx hb d_C_place_50 hl rfl (by first | rfl | (rw [nI_succ]; rfl)) (by decide) rfl (fun ls hl => ?_)
          have hl : lv_has ls 4 [(2, .int (v2 + 1)), (0, .ref (ad 0)), (1, .int p1), (3, .int (nI i))] := hl
          refine lv_iinc (k := 3) (v := (nI (i + 1))) hx hb d_C_place_53 hl rfl (by first | rfl | (rw [nI_succ]; rfl)) (by decide) rfl (fun ls hl => ?_)
          have hl : lv_has ls 4 [(3, .int (nI (i + 1))), (2, .int (v2 + 1)), (0, .ref (ad 0)), (1, .int p1)] := hl
          refine lv_goto (tgt := 14) hx hb d_C_place_56 (by decide) ?_
          exact ih (i + 1) (v2 + 1) ls (by omega) (lv_sub hl [2, 3, 1, 0] rfl) (by first | with_reducible assumption | exact Or.inl rfl | exact (fun h9 => absurd h9 (by decide)) | exact (fun h9 => absurd rfl h9) | exact vi_runner _ | exact Or.inr (vp_in_nI (by omega) (by decide)) | exact Or.inr (by first | with_reducible assumption | exact vi_isIn7 (by with_reducible assumption) | exact vi_isThing (by with_reducible assumption) | exact vi_decl (by with_reducible assumption) | exact vi_ready (by with_reducible assumption) | exact vi_run (by with_reducible assumption) (by with_reducible assumption) | exact vi_run (by with_reducible assumption) (vi_runner _) | exact vi_mTask (by with_reducible assumption) | exact vi_mThing (by with_reducible assumption) | exact vi_mdecl (by with_reducible assumption) | exact vi_mready (by with_reducible assumption)) | exact (fun _ => ⟨(by first | with_reducible assumption | exact vi_isIn7 (by with_reducible assumption) | exact vi_isThing (by with_reducible assumption) | exact vi_decl (by with_reducible assumption) | exact vi_ready (by with_reducible assumption) | exact vi_run (by with_reducible assumption) (by with_reducible assumption) | exact vi_run (by with_reducible assumption) (vi_runner _) | exact vi_mTask (by with_reducible assumption) | exact vi_mThing (by with_reducible assumption) | exact vi_mdecl (by with_reducible assumption) | exact vi_mready (by with_reducible assumption)), (by first | with_reducible assumption | exact vi_isIn7 (by with_reducible assumption) | exact vi_isThing (by with_reducible assumption) | exact vi_decl (by with_reducible assumption) | exact vi_ready (by with_reducible assumption) | exact vi_run (by with_reducible assumption) (by with_reducible assumption) | exact vi_run (by with_reducible assumption) (vi_runner _) | exact vi_mTask (by with_reducible assumption) | exact vi_mThing (by with_reducible assumption) | exact vi_mdecl (by with_reducible assumption) | exact vi_mready (by with_reducible assumption))⟩) | exact (fun _ => ⟨vi_latest (by with_reducible assumption) (by with_reducible assumption), vi_run (by with_reducible assumption) (by with_reducible assumption)⟩) | exact (fun _ => (by with_reducible assumption : ¬ v4 = 0 → _) (by with_reducible assumption)) | exact (fun _ => (by first | with_reducible assumption | exact vi_isIn7 (by with_reducible assumption) | exact vi_isThing (by with_reducible assumption) | exact vi_decl (by with_reducible assumption) | exact vi_ready (by with_reducible assumption) | exact vi_run (by with_reducible assumption) (by with_reducible assumption) | exact vi_run (by with_reducible assumption) (vi_runner _) | exact vi_mTask (by with_reducible assumption) | exact vi_mThing (by with_reducible assumption) | exact vi_mdecl (by with_reducible assumption) | exact vi_mready (by with_reducible assumption))) | exact (by first | with_reducible assumption | exact vi_isIn7 (by with_reducible assumption) | exact vi_isThing (by with_reducible assumption) | exact vi_decl (by with_reducible assumption) | exact vi_ready (by with_reducible assumption) | exact vi_run (by with_reducible assumption) (by with_reducible assumption) | exact vi_run (by with_reducible assumption) (vi_runner _) | exact vi_mTask (by with_reducible assumption) | exact vi_mThing (by with_reducible assumption) | exact vi_mdecl (by with_reducible assumption) | exact vi_mready (by with_reducible assumption))) he
  have he := f_C_place.eq_1 st p1
  refine lv_aload_n hx hb d_C_place_0 rfl (lv_at hl 0 rfl) ?_
  refine lv_iload_n hx hb d_C_place_1 rfl (lv_at hl 1 rfl) ?_
  refine rdV (As := [.int p1]) (rest := []) (na := 1) (c_C_isReady l D cI cT cH ad st p1 ) ⟨hx, hb, hml, hown, hts⟩ k_174 k_176 k_1 k_24 k_177 (by decide +kernel) (by decide) (by decide) hP hK hN (q0 := 0) (ci := 0) cw_0 rfl rfl hl.1 rfl (Nat.le_of_ble_eq_true rfl) d_C_place_2 ?_
  refine lv_if_ne (tgt := 10) hx hb d_C_place_5 (by decide) (fun hc9 => ?_) (fun hc9 => ?_)
  · have he := he.trans (if_neg hc9)
    refine lv_iconst (v := 0) hx hb d_C_place_10 (by decide) ?_
    refine lv_istore_n hx hb d_C_place_11 rfl hl (by decide) rfl (fun ls hl => ?_)
    have hl : lv_has ls 4 [(2, .int 0), (0, .ref (ad 0)), (1, .int p1)] := hl
    refine lv_iconst (v := 0) hx hb d_C_place_12 (by decide) ?_
    refine lv_istore_n hx hb d_C_place_13 rfl hl (by decide) rfl (fun ls hl => ?_)
    have hl : lv_has ls 4 [(3, .int 0), (2, .int 0), (0, .ref (ad 0)), (1, .int p1)] := hl
    exact L14 8 0 0 ls (by first | decide | omega) (lv_sub hl [2, 3, 1, 0] rfl) (by first | with_reducible assumption | exact Or.inl rfl | exact (fun h9 => absurd h9 (by decide)) | exact (fun h9 => absurd rfl h9) | exact vi_runner _ | exact Or.inr (vp_in_nI (by omega) (by decide)) | exact Or.inr (by first | with_reducible assumption | exact vi_isIn7 (by with_reducible assumption) | exact vi_isThing (by with_reducible assumption) | exact vi_decl (by with_reducible assumption) | exact vi_ready (by with_reducible assumption) | exact vi_run (by with_reducible assumption) (by with_reducible assumption) | exact vi_run (by with_reducible assumption) (vi_runner _) | exact vi_mTask (by with_reducible assumption) | exact vi_mThing (by with_reducible assumption) | exact vi_mdecl (by with_reducible assumption) | exact vi_mready (by with_reducible assumption)) | exact (fun _ => ⟨(by first | with_reducible assumption | exact vi_isIn7 (by with_reducible assumption) | exact vi_isThing (by with_reducible assumption) | exact vi_decl (by with_reducible assumption) | exact vi_ready (by with_reducible assumption) | exact vi_run (by with_reducible assumption) (by with_reducible assumption) | exact vi_run (by with_reducible assumption) (vi_runner _) | exact vi_mTask (by with_reducible assumption) | exact vi_mThing (by with_reducible assumption) | exact vi_mdecl (by with_reducible assumption) | exact vi_mready (by with_reducible assumption)), (by first | with_reducible assumption | exact vi_isIn7 (by with_reducible assumption) | exact vi_isThing (by with_reducible assumption) | exact vi_decl (by with_reducible assumption) | exact vi_ready (by with_reducible assumption) | exact vi_run (by with_reducible assumption) (by with_reducible assumption) | exact vi_run (by with_reducible assumption) (vi_runner _) | exact vi_mTask (by with_reducible assumption) | exact vi_mThing (by with_reducible assumption) | exact vi_mdecl (by with_reducible assumption) | exact vi_mready (by with_reducible assumption))⟩) | exact (fun _ => ⟨vi_latest (by with_reducible assumption) (by with_reducible assumption), vi_run (by with_reducible assumption) (by with_reducible assumption)⟩) | exact (fun _ => (by with_reducible assumption : ¬ v4 = 0 → _) (by with_reducible assumption)) | exact (fun _ => (by first | with_reducible assumption | exact vi_isIn7 (by with_reducible assumption) | exact vi_isThing (by with_reducible assumption) | exact vi_decl (by with_reducible assumption) | exact vi_ready (by with_reducible assumption) | exact vi_run (by with_reducible assumption) (by with_reducible assumption) | exact vi_run (by with_reducible assumption) (vi_runner _) | exact vi_mTask (by with_reducible assumption) | exact vi_mThing (by with_reducible assumption) | exact vi_mdecl (by with_reducible assumption) | exact vi_mready (by with_reducible assumption))) | exact (by first | with_reducible assumption | exact vi_isIn7 (by with_reducible assumption) | exact vi_isThing (by with_reducible assumption) | exact vi_decl (by with_reducible assumption) | exact vi_ready (by with_reducible assumption) | exact vi_run (by with_reducible assumption) (by with_reducible assumption) | exact vi_run (by with_reducible assumption) (vi_runner _) | exact vi_mTask (by with_reducible assumption) | exact vi_mThing (by with_reducible assumption) | exact vi_mdecl (by with_reducible assumption) | exact vi_mready (by with_reducible assumption))) he
  · have he := he.trans (if_pos hc9)
    refine lv_iconst (v := (-1)) hx hb d_C_place_8 (by decide) ?_
    exact W.iret (v := (-1)) hx hb hr (fun t ht _ => ⟨by rw [he], ht⟩) (fun _ h => nomatch h) d_C_place_9
set_option maxHeartbeats 4000000 in
set_option maxRecDepth 100000 in
theorem c_C_ceiling (l : Launch) (D : va_G) (cI cT cH : ClassId) (ad : Nat → Nat) (st : St) (p1 : Int32) : Met l y_C_ceiling w_C_ceiling { frames := 2, cells := 0, slots := 0, locals := 42 } (va_Pc [.ref (ad 0), .int p1] (gW D cI cT cH (cw cI cT cH ad st))) (QcRead (f_C_ceiling st p1)) 0 0 (fun _ => False) := by
  refine Met.ofW (cc := b_C_ceiling) (maxL := 2) (ret := (some .int)) (by decide +kernel) rfl ?_
  intro p e s m args below meth c s₁ B hml hv
  obtain ⟨rfl, hP, hK, hN⟩ := hv
  have hx := B.exec
  have hb := B.bytes
  have hr := B.returns
  have hlocks := B.notSynchronized
  have hts0 := atoms_spec (ws := w_C_ceiling) B.pre
  have hts : ∀ w ∈ TT, w.before [.ref (ad 0), .int p1].toArray s = true := fun w h => hts0 w (List.mem_cons_of_mem _ h)
  have hown : s.vm.findClass R_C = some m.cls := findClass_of_methodNamed B.named
  have hl := lv_entry ([.ref (ad 0), .int p1]) (n := 2) (Nat.le_of_ble_eq_true rfl)
  rw [lg_entry_eq]
  generalize (lg_sl ([.ref (ad 0), .int p1]) ++ List.replicate (2 - (lg_sl ([.ref (ad 0), .int p1])).length) Slot.unset).toArray = ls at hl ⊢
  have hl : lv_has ls 2 [(0, .ref (ad 0)), (1, .int p1)] := hl
  have he := f_C_ceiling.eq_1 st p1
  refine lv_aload_n hx hb d_C_ceiling_0 rfl (lv_at hl 0 rfl) ?_
  refine va_get (D := D) (ci := 0) (v := .int (st 0 3)) (C := R_C) (T := F_C) (N := 7) hx hb hts in_C hown hK hP 0 cw_0 rfl 3 (by decide) (hts _ k_132) (fun _ h9 => h9) rfl d_C_ceiling_1 ?_
  refine lv_if_eq (tgt := 26) hx hb d_C_ceiling_4 (by decide) (fun hc1 => ?_) (fun hc1 => ?_)
  · have he := he.trans (if_pos hc1)
    refine lv_iconst (v := (-1)) hx hb d_C_ceiling_26 (by decide) ?_
    exact W.iret (v := (-1)) hx hb hr (fun t ht _ => ⟨by rw [he], ht⟩) (fun _ h => nomatch h) d_C_ceiling_27
  · have he := he.trans (if_neg hc1)
    refine lv_iload_n hx hb d_C_ceiling_7 rfl (lv_at hl 1 rfl) ?_
    refine rdS (As := [.int p1]) (rest := []) (na := 1) (c_C_isThing l p1 ) ⟨hx, hb, hml, hown, hts⟩ k_186 k_187 k_24 k_188 (by decide +kernel) (by decide) (by decide) rfl hl.1 rfl (Nat.le_of_ble_eq_true rfl) d_C_ceiling_8 ?_
    refine lv_if_eq (tgt := 26) hx hb d_C_ceiling_11 (by decide) (fun hc2 => ?_) (fun hc2 => ?_)
    · have he := he.trans (if_pos hc2)
      refine lv_iconst (v := (-1)) hx hb d_C_ceiling_26 (by decide) ?_
      exact W.iret (v := (-1)) hx hb hr (fun t ht _ => ⟨by rw [he], ht⟩) (fun _ h => nomatch h) d_C_ceiling_27
    · have he := he.trans (if_neg hc2)
      refine lv_aload_n hx hb d_C_ceiling_14 rfl (lv_at hl 0 rfl) ?_
      refine va_get (D := D) (ci := 0) (v := .ref (ad 2)) (C := R_C) (T := F_C) (N := 7) hx hb hts in_C hown hK hP 0 cw_0 rfl 1 (by decide) (hts _ k_130) (fun _ h9 => h9) rfl d_C_ceiling_15 ?_
      refine lv_iload_n hx hb d_C_ceiling_18 rfl (lv_at hl 1 rfl) ?_
      have hi3 : vp_in p1 6 := (by first | with_reducible assumption | exact vi_isIn7 (by with_reducible assumption) | exact vi_isThing (by with_reducible assumption) | exact vi_decl (by with_reducible assumption) | exact vi_ready (by with_reducible assumption) | exact vi_run (by with_reducible assumption) (by with_reducible assumption) | exact vi_run (by with_reducible assumption) (vi_runner _) | exact vi_mTask (by with_reducible assumption) | exact vi_mThing (by with_reducible assumption) | exact vi_mdecl (by with_reducible assumption) | exact vi_mready (by with_reducible assumption))
      refine va_aldq hx hb hK hP 2 2 cw_2 rfl hi3 d_C_ceiling_19 ?_
      have hj4 : p1.toNatClampNeg < 6 := vi_lt hi3
      refine W.eq (g2 := F0 m 20 ls [.ref (ad (21 + p1.toNatClampNeg))]) rfl ?_
      refine va_getN (D := D) (ci := 2) (v := .int (st (21 + p1.toNatClampNeg) 0)) (C := R_H) (T := F_H) (N := 4) hx hb hts in_H hown hK hP (21 + p1.toNatClampNeg) (cw_h hj4) rfl 0 (by decide) (va_Nw.use rfl (hN _ nk_C_87)) (fun _ h9 => h9) rfl d_C_ceiling_20 ?_
      refine lv_goto (tgt := 27) hx hb d_C_ceiling_23 (by decide) ?_
      exact W.iret (v := (st (21 + p1.toNatClampNeg) 0)) hx hb hr (fun t ht _ => ⟨by rw [he], ht⟩) (fun _ h => nomatch h) d_C_ceiling_27
set_option maxHeartbeats 4000000 in
set_option maxRecDepth 100000 in
theorem c_C_holder (l : Launch) (D : va_G) (cI cT cH : ClassId) (ad : Nat → Nat) (st : St) (p1 : Int32) : Met l y_C_holder w_C_holder { frames := 2, cells := 0, slots := 0, locals := 42 } (va_Pc [.ref (ad 0), .int p1] (gW D cI cT cH (cw cI cT cH ad st))) (QcRead (f_C_holder st p1)) 0 0 (fun _ => False) := by
  refine Met.ofW (cc := b_C_holder) (maxL := 2) (ret := (some .int)) (by decide +kernel) rfl ?_
  intro p e s m args below meth c s₁ B hml hv
  obtain ⟨rfl, hP, hK, hN⟩ := hv
  have hx := B.exec
  have hb := B.bytes
  have hr := B.returns
  have hlocks := B.notSynchronized
  have hts0 := atoms_spec (ws := w_C_holder) B.pre
  have hts : ∀ w ∈ TT, w.before [.ref (ad 0), .int p1].toArray s = true := fun w h => hts0 w (List.mem_cons_of_mem _ h)
  have hown : s.vm.findClass R_C = some m.cls := findClass_of_methodNamed B.named
  have hl := lv_entry ([.ref (ad 0), .int p1]) (n := 2) (Nat.le_of_ble_eq_true rfl)
  rw [lg_entry_eq]
  generalize (lg_sl ([.ref (ad 0), .int p1]) ++ List.replicate (2 - (lg_sl ([.ref (ad 0), .int p1])).length) Slot.unset).toArray = ls at hl ⊢
  have hl : lv_has ls 2 [(0, .ref (ad 0)), (1, .int p1)] := hl
  have he := f_C_holder.eq_1 st p1
  refine lv_iload_n hx hb d_C_holder_0 rfl (lv_at hl 1 rfl) ?_
  refine rdS (As := [.int p1]) (rest := []) (na := 1) (c_C_isThing l p1 ) ⟨hx, hb, hml, hown, hts⟩ k_186 k_187 k_24 k_188 (by decide +kernel) (by decide) (by decide) rfl hl.1 rfl (Nat.le_of_ble_eq_true rfl) d_C_holder_1 ?_
  refine lv_if_eq (tgt := 19) hx hb d_C_holder_4 (by decide) (fun hc1 => ?_) (fun hc1 => ?_)
  · have he := he.trans (if_pos hc1)
    refine lv_iconst (v := (-1)) hx hb d_C_holder_19 (by decide) ?_
    exact W.iret (v := (-1)) hx hb hr (fun t ht _ => ⟨by rw [he], ht⟩) (fun _ h => nomatch h) d_C_holder_20
  · have he := he.trans (if_neg hc1)
    refine lv_aload_n hx hb d_C_holder_7 rfl (lv_at hl 0 rfl) ?_
    refine va_get (D := D) (ci := 0) (v := .ref (ad 2)) (C := R_C) (T := F_C) (N := 7) hx hb hts in_C hown hK hP 0 cw_0 rfl 1 (by decide) (hts _ k_130) (fun _ h9 => h9) rfl d_C_holder_8 ?_
    refine lv_iload_n hx hb d_C_holder_11 rfl (lv_at hl 1 rfl) ?_
    have hi2 : vp_in p1 6 := (by first | with_reducible assumption | exact vi_isIn7 (by with_reducible assumption) | exact vi_isThing (by with_reducible assumption) | exact vi_decl (by with_reducible assumption) | exact vi_ready (by with_reducible assumption) | exact vi_run (by with_reducible assumption) (by with_reducible assumption) | exact vi_run (by with_reducible assumption) (vi_runner _) | exact vi_mTask (by with_reducible assumption) | exact vi_mThing (by with_reducible assumption) | exact vi_mdecl (by with_reducible assumption) | exact vi_mready (by with_reducible assumption))
    refine va_aldq hx hb hK hP 2 2 cw_2 rfl hi2 d_C_holder_12 ?_
    have hj3 : p1.toNatClampNeg < 6 := vi_lt hi2
    refine W.eq (g2 := F0 m 13 ls [.ref (ad (21 + p1.toNatClampNeg))]) rfl ?_
    refine va_getN (D := D) (ci := 2) (v := .int (st (21 + p1.toNatClampNeg) 1)) (C := R_H) (T := F_H) (N := 4) hx hb hts in_H hown hK hP (21 + p1.toNatClampNeg) (cw_h hj3) rfl 1 (by decide) (va_Nw.use rfl (hN _ nk_C_119)) (fun _ h9 => h9) rfl d_C_holder_13 ?_
    refine lv_goto (tgt := 20) hx hb d_C_holder_16 (by decide) ?_
    exact W.iret (v := (st (21 + p1.toNatClampNeg) 1)) hx hb hr (fun t ht _ => ⟨by rw [he], ht⟩) (fun _ h => nomatch h) d_C_holder_20
set_option maxHeartbeats 4000000 in
set_option maxRecDepth 100000 in
theorem c_C_spent (l : Launch) (D : va_G) (cI cT cH : ClassId) (ad : Nat → Nat) (st : St) (p1 : Int32) (p2 : Int32) : Met l y_C_spent w_C_spent { frames := 2, cells := 0, slots := 0, locals := 43 } (va_Pc [.ref (ad 0), .int p1, .int p2] (gW D cI cT cH (cw cI cT cH ad st))) (QcRead (f_C_spent st p1 p2)) 0 0 (fun _ => False) := by
  refine Met.ofW (cc := b_C_spent) (maxL := 3) (ret := (some .int)) (by decide +kernel) rfl ?_
  intro p e s m args below meth c s₁ B hml hv
  obtain ⟨rfl, hP, hK, hN⟩ := hv
  have hx := B.exec
  have hb := B.bytes
  have hr := B.returns
  have hlocks := B.notSynchronized
  have hts0 := atoms_spec (ws := w_C_spent) B.pre
  have hts : ∀ w ∈ TT, w.before [.ref (ad 0), .int p1, .int p2].toArray s = true := fun w h => hts0 w (List.mem_cons_of_mem _ h)
  have hown : s.vm.findClass R_C = some m.cls := findClass_of_methodNamed B.named
  have hl := lv_entry ([.ref (ad 0), .int p1, .int p2]) (n := 3) (Nat.le_of_ble_eq_true rfl)
  rw [lg_entry_eq]
  generalize (lg_sl ([.ref (ad 0), .int p1, .int p2]) ++ List.replicate (3 - (lg_sl ([.ref (ad 0), .int p1, .int p2])).length) Slot.unset).toArray = ls at hl ⊢
  have hl : lv_has ls 3 [(0, .ref (ad 0)), (1, .int p1), (2, .int p2)] := hl
  have he := f_C_spent.eq_1 st p1 p2
  refine lv_aload_n hx hb d_C_spent_0 rfl (lv_at hl 0 rfl) ?_
  refine lv_iload_n hx hb d_C_spent_1 rfl (lv_at hl 1 rfl) ?_
  refine rdV (As := [.int p1]) (rest := []) (na := 1) (c_C_isDeclared l D cI cT cH ad st p1 ) ⟨hx, hb, hml, hown, hts⟩ k_159 k_161 k_0 k_24 k_162 (by decide +kernel) (by decide) (by decide) hP hK hN (q0 := 0) (ci := 0) cw_0 rfl rfl hl.1 rfl (Nat.le_of_ble_eq_true rfl) d_C_spent_2 ?_
  refine lv_if_ne (tgt := 10) hx hb d_C_spent_5 (by decide) (fun hc1 => ?_) (fun hc1 => ?_)
  · have he := he.trans (if_neg hc1)
    refine lv_iload_n hx hb d_C_spent_10 rfl (lv_at hl 2 rfl) ?_
    refine lv_if_ne (tgt := 24) hx hb d_C_spent_11 (by decide) (fun hc2 => ?_) (fun hc2 => ?_)
    · have he := he.trans (if_neg hc2)
      refine lv_iload_n hx hb d_C_spent_24 rfl (lv_at hl 2 rfl) ?_
      refine lv_iconst (v := 1) hx hb d_C_spent_25 (by decide) ?_
      refine lv_icmp_ne (tgt := 41) hx hb d_C_spent_26 (by decide) (fun hc3 => ?_) (fun hc3 => ?_)
      · have he := he.trans (if_neg hc3)
        refine lv_iconst (v := 0) hx hb d_C_spent_41 (by decide) ?_
        exact W.iret (v := 0) hx hb hr (fun t ht _ => ⟨by rw [he], ht⟩) (fun _ h => nomatch h) d_C_spent_42
      · have he := he.trans (if_pos hc3)
        refine lv_aload_n hx hb d_C_spent_29 rfl (lv_at hl 0 rfl) ?_
        refine va_get (D := D) (ci := 0) (v := .ref (ad 1)) (C := R_C) (T := F_C) (N := 7) hx hb hts in_C hown hK hP 0 cw_0 rfl 0 (by decide) (hts _ k_129) (fun _ h9 => h9) rfl d_C_spent_30 ?_
        refine lv_iload_n hx hb d_C_spent_33 rfl (lv_at hl 1 rfl) ?_
        have hi4 : vp_in p1 8 := (by first | with_reducible assumption | exact vi_isIn7 (by with_reducible assumption) | exact vi_isThing (by with_reducible assumption) | exact vi_decl (by with_reducible assumption) | exact vi_ready (by with_reducible assumption) | exact vi_run (by with_reducible assumption) (by with_reducible assumption) | exact vi_run (by with_reducible assumption) (vi_runner _) | exact vi_mTask (by with_reducible assumption) | exact vi_mThing (by with_reducible assumption) | exact vi_mdecl (by with_reducible assumption) | exact vi_mready (by with_reducible assumption))
        refine va_aldq hx hb hK hP 1 1 cw_1 rfl hi4 d_C_spent_34 ?_
        have hj5 : p1.toNatClampNeg < 8 := vi_lt hi4
        refine W.eq (g2 := F0 m 35 ls [.ref (ad (5 + 2 * p1.toNatClampNeg))]) rfl ?_
        refine va_getN (D := D) (ci := 1) (v := .int (st (5 + 2 * p1.toNatClampNeg) 9)) (C := R_T) (T := F_T) (N := 10) hx hb hts in_T hown hK hP (5 + 2 * p1.toNatClampNeg) (cw_k hj5) rfl 9 (by decide) (va_Nw.use rfl (hN _ nk_C_162)) (fun _ h9 => h9) rfl d_C_spent_35 ?_
        refine lv_goto (tgt := 42) hx hb d_C_spent_38 (by decide) ?_
        exact W.iret (v := (st (5 + 2 * p1.toNatClampNeg) 9)) hx hb hr (fun t ht _ => ⟨by rw [he], ht⟩) (fun _ h => nomatch h) d_C_spent_42
    · have he := he.trans (if_pos hc2)
      refine lv_aload_n hx hb d_C_spent_14 rfl (lv_at hl 0 rfl) ?_
      refine va_get (D := D) (ci := 0) (v := .ref (ad 1)) (C := R_C) (T := F_C) (N := 7) hx hb hts in_C hown hK hP 0 cw_0 rfl 0 (by decide) (hts _ k_129) (fun _ h9 => h9) rfl d_C_spent_15 ?_
      refine lv_iload_n hx hb d_C_spent_18 rfl (lv_at hl 1 rfl) ?_
      have hi6 : vp_in p1 8 := (by first | with_reducible assumption | exact vi_isIn7 (by with_reducible assumption) | exact vi_isThing (by with_reducible assumption) | exact vi_decl (by with_reducible assumption) | exact vi_ready (by with_reducible assumption) | exact vi_run (by with_reducible assumption) (by with_reducible assumption) | exact vi_run (by with_reducible assumption) (vi_runner _) | exact vi_mTask (by with_reducible assumption) | exact vi_mThing (by with_reducible assumption) | exact vi_mdecl (by with_reducible assumption) | exact vi_mready (by with_reducible assumption))
      refine va_aldq hx hb hK hP 1 1 cw_1 rfl hi6 d_C_spent_19 ?_
      have hj7 : p1.toNatClampNeg < 8 := vi_lt hi6
      refine W.eq (g2 := F0 m 20 ls [.ref (ad (5 + 2 * p1.toNatClampNeg))]) rfl ?_
      refine va_getN (D := D) (ci := 1) (v := .int (st (5 + 2 * p1.toNatClampNeg) 8)) (C := R_T) (T := F_T) (N := 10) hx hb hts in_T hown hK hP (5 + 2 * p1.toNatClampNeg) (cw_k hj7) rfl 8 (by decide) (va_Nw.use rfl (hN _ nk_C_149)) (fun _ h9 => h9) rfl d_C_spent_20 ?_
      exact W.iret (v := (st (5 + 2 * p1.toNatClampNeg) 8)) hx hb hr (fun t ht _ => ⟨by rw [he], ht⟩) (fun _ h => nomatch h) d_C_spent_23
  · have he := he.trans (if_pos hc1)
    refine lv_iconst (v := 0) hx hb d_C_spent_8 (by decide) ?_
    exact W.iret (v := 0) hx hb hr (fun t ht _ => ⟨by rw [he], ht⟩) (fun _ h => nomatch h) d_C_spent_9
set_option maxHeartbeats 4000000 in
set_option maxRecDepth 100000 in
theorem c_C_blocking (l : Launch) (D : va_G) (cI cT cH : ClassId) (ad : Nat → Nat) (st : St) (p1 : Int32) : Met l y_C_blocking w_C_blocking { frames := 3, cells := 0, slots := 0, locals := 68 } (va_Pc [.ref (ad 0), .int p1] (gW D cI cT cH (cw cI cT cH ad st))) (QcRead (f_C_blocking st p1)) 0 0 (fun _ => False) := by
  refine Met.ofW (cc := b_C_blocking) (maxL := 2) (ret := (some .int)) (by decide +kernel) rfl ?_
  intro p e s m args below meth c s₁ B hml hv
  obtain ⟨rfl, hP, hK, hN⟩ := hv
  have hx := B.exec
  have hb := B.bytes
  have hr := B.returns
  have hlocks := B.notSynchronized
  have hts0 := atoms_spec (ws := w_C_blocking) B.pre
  have hts : ∀ w ∈ TT, w.before [.ref (ad 0), .int p1].toArray s = true := fun w h => hts0 w (List.mem_cons_of_mem _ h)
  have hown : s.vm.findClass R_C = some m.cls := findClass_of_methodNamed B.named
  have hl := lv_entry ([.ref (ad 0), .int p1]) (n := 2) (Nat.le_of_ble_eq_true rfl)
  rw [lg_entry_eq]
  generalize (lg_sl ([.ref (ad 0), .int p1]) ++ List.replicate (2 - (lg_sl ([.ref (ad 0), .int p1])).length) Slot.unset).toArray = ls at hl ⊢
  have hl : lv_has ls 2 [(0, .ref (ad 0)), (1, .int p1)] := hl
  have he := f_C_blocking.eq_1 st p1
  refine lv_aload_n hx hb d_C_blocking_0 rfl (lv_at hl 0 rfl) ?_
  refine va_get (D := D) (ci := 0) (v := .int (st 0 3)) (C := R_C) (T := F_C) (N := 7) hx hb hts in_C hown hK hP 0 cw_0 rfl 3 (by decide) (hts _ k_132) (fun _ h9 => h9) rfl d_C_blocking_1 ?_
  refine lv_if_eq (tgt := 31) hx hb d_C_blocking_4 (by decide) (fun hc1 => ?_) (fun hc1 => ?_)
  · have he := he.trans (if_pos hc1)
    refine lv_iconst (v := (-1)) hx hb d_C_blocking_31 (by decide) ?_
    exact W.iret (v := (-1)) hx hb hr (fun t ht _ => ⟨by rw [he], ht⟩) (fun _ h => nomatch h) d_C_blocking_32
  · have he := he.trans (if_neg hc1)
    refine lv_aload_n hx hb d_C_blocking_7 rfl (lv_at hl 0 rfl) ?_
    refine lv_iload_n hx hb d_C_blocking_8 rfl (lv_at hl 1 rfl) ?_
    refine rdV (As := [.int p1]) (rest := []) (na := 1) (c_C_isDeclared l D cI cT cH ad st p1 ) ⟨hx, hb, hml, hown, hts⟩ k_159 k_161 k_0 k_24 k_162 (by decide +kernel) (by decide) (by decide) hP hK hN (q0 := 0) (ci := 0) cw_0 rfl rfl hl.1 rfl (Nat.le_of_ble_eq_true rfl) d_C_blocking_9 ?_
    refine lv_if_eq (tgt := 31) hx hb d_C_blocking_12 (by decide) (fun hc2 => ?_) (fun hc2 => ?_)
    · have he := he.trans (if_pos hc2)
      refine lv_iconst (v := (-1)) hx hb d_C_blocking_31 (by decide) ?_
      exact W.iret (v := (-1)) hx hb hr (fun t ht _ => ⟨by rw [he], ht⟩) (fun _ h => nomatch h) d_C_blocking_32
    · have he := he.trans (if_neg hc2)
      refine lv_aload_n hx hb d_C_blocking_15 rfl (lv_at hl 0 rfl) ?_
      refine lv_aload_n hx hb d_C_blocking_16 rfl (lv_at hl 0 rfl) ?_
      refine va_get (D := D) (ci := 0) (v := .ref (ad 1)) (C := R_C) (T := F_C) (N := 7) hx hb hts in_C hown hK hP 0 cw_0 rfl 0 (by decide) (hts _ k_129) (fun _ h9 => h9) rfl d_C_blocking_17 ?_
      refine lv_iload_n hx hb d_C_blocking_20 rfl (lv_at hl 1 rfl) ?_
      have hi3 : vp_in p1 8 := (by first | with_reducible assumption | exact vi_isIn7 (by with_reducible assumption) | exact vi_isThing (by with_reducible assumption) | exact vi_decl (by with_reducible assumption) | exact vi_ready (by with_reducible assumption) | exact vi_run (by with_reducible assumption) (by with_reducible assumption) | exact vi_run (by with_reducible assumption) (vi_runner _) | exact vi_mTask (by with_reducible assumption) | exact vi_mThing (by with_reducible assumption) | exact vi_mdecl (by with_reducible assumption) | exact vi_mready (by with_reducible assumption))
      refine va_aldq hx hb hK hP 1 1 cw_1 rfl hi3 d_C_blocking_21 ?_
      have hj4 : p1.toNatClampNeg < 8 := vi_lt hi3
      refine W.eq (g2 := F0 m 22 ls [.ref (ad (5 + 2 * p1.toNatClampNeg)), .ref (ad 0)]) rfl ?_
      refine va_getN (D := D) (ci := 1) (v := .int (st (5 + 2 * p1.toNatClampNeg) 0)) (C := R_T) (T := F_T) (N := 10) hx hb hts in_T hown hK hP (5 + 2 * p1.toNatClampNeg) (cw_k hj4) rfl 0 (by decide) (va_Nw.use rfl (hN _ nk_C_64)) (fun _ h9 => h9) rfl d_C_blocking_22 ?_
      refine rdV (As := [.int (st (5 + 2 * p1.toNatClampNeg) 0)]) (rest := []) (na := 1) (c_C_longestBlockingAt l D cI cT cH ad st (st (5 + 2 * p1.toNatClampNeg) 0) ) ⟨hx, hb, hml, hown, hts⟩ k_201 k_203 k_2 k_24 k_204 (by decide +kernel) (by decide) (by decide) hP hK hN (q0 := 0) (ci := 0) cw_0 rfl rfl hl.1 rfl (Nat.le_of_ble_eq_true rfl) d_C_blocking_25 ?_
      refine lv_goto (tgt := 32) hx hb d_C_blocking_28 (by decide) ?_
      exact W.iret (v := (f_C_longestBlockingAt st (st (5 + 2 * p1.toNatClampNeg) 0))) hx hb hr (fun t ht _ => ⟨by rw [he], ht⟩) (fun _ h => nomatch h) d_C_blocking_32
set_option maxHeartbeats 4000000 in
set_option maxRecDepth 100000 in
theorem c_C_response (l : Launch) (D : va_G) (cI cT cH : ClassId) (ad : Nat → Nat) (st : St) (p1 : Int32) (hy0 : ∀ j, j < 8 → (st (5 + 2 * j) 2).toNatClampNeg < 1000) : Met l y_C_response w_C_response { frames := 3, cells := 0, slots := 0, locals := 68 } (va_Pc [.ref (ad 0), .int p1] (gW D cI cT cH (cw cI cT cH ad st))) (QcRead (f_C_response st p1)) 0 0 (fun _ => False) := by
  refine Met.ofW (cc := b_C_response) (maxL := 4) (ret := (some .int)) (by decide +kernel) rfl ?_
  intro p e s m args below meth c s₁ B hml hv
  obtain ⟨rfl, hP, hK, hN⟩ := hv
  have hx := B.exec
  have hb := B.bytes
  have hr := B.returns
  have hlocks := B.notSynchronized
  have hts0 := atoms_spec (ws := w_C_response) B.pre
  have hts : ∀ w ∈ TT, w.before [.ref (ad 0), .int p1].toArray s = true := fun w h => hts0 w (List.mem_cons_of_mem _ h)
  have hown : s.vm.findClass R_C = some m.cls := findClass_of_methodNamed B.named
  have hl := lv_entry ([.ref (ad 0), .int p1]) (n := 4) (Nat.le_of_ble_eq_true rfl)
  rw [lg_entry_eq]
  generalize (lg_sl ([.ref (ad 0), .int p1]) ++ List.replicate (4 - (lg_sl ([.ref (ad 0), .int p1])).length) Slot.unset).toArray = ls at hl ⊢
  have hl : lv_has ls 4 [(0, .ref (ad 0)), (1, .int p1)] := hl
  have L43 : ∀ (n i : Nat) (v2 : Int32) (ls : Array Slot), i + n = (st (5 + 2 * p1.toNatClampNeg) 2).toNatClampNeg + 1 → 1 ≤ i → lv_has ls 4 [(0, .ref (ad 0)), (1, .int p1), (2, .int v2), (3, .int (nI i))] → (vp_in p1 8) → f_C_response st p1 = f_C_response_L43 n i st p1 v2 → W p l e (headSpec w_C_response { frames := 3, cells := 0, slots := 0, locals := 68 }).room s m [.ref (ad 0), .int p1].toArray below meth c s.heap [] 0 0 (MQ below (QcRead (f_C_response st p1)) [.ref (ad 0), .int p1].toArray s 0 0 (fun _ => False)) (F0 m 43 ls []) := by
    intro n
    induction n with
    | zero =>
      intro i v2 ls hcnt hone hl g0 he
      rw [f_C_response_L43] at he
      refine lv_iload_n hx hb d_C_response_43 rfl (lv_at hl 3 rfl) ?_
      refine lv_aload_n hx hb d_C_response_44 rfl (lv_at hl 0 rfl) ?_
      refine va_get (D := D) (ci := 0) (v := .ref (ad 1)) (C := R_C) (T := F_C) (N := 7) hx hb hts in_C hown hK hP 0 cw_0 rfl 0 (by decide) (hts _ k_129) (fun _ h9 => h9) rfl d_C_response_45 ?_
      refine lv_iload_n hx hb d_C_response_48 rfl (lv_at hl 1 rfl) ?_
      have hi1 : vp_in p1 8 := (by first | with_reducible assumption | exact vi_isIn7 (by with_reducible assumption) | exact vi_isThing (by with_reducible assumption) | exact vi_decl (by with_reducible assumption) | exact vi_ready (by with_reducible assumption) | exact vi_run (by with_reducible assumption) (by with_reducible assumption) | exact vi_run (by with_reducible assumption) (vi_runner _) | exact vi_mTask (by with_reducible assumption) | exact vi_mThing (by with_reducible assumption) | exact vi_mdecl (by with_reducible assumption) | exact vi_mready (by with_reducible assumption))
      refine va_aldq hx hb hK hP 1 1 cw_1 rfl hi1 d_C_response_49 ?_
      have hj2 : p1.toNatClampNeg < 8 := vi_lt hi1
      refine W.eq (g2 := F0 m 50 ls [.ref (ad (5 + 2 * p1.toNatClampNeg)), .int (nI i)]) rfl ?_
      refine va_getN (D := D) (ci := 1) (v := .int (st (5 + 2 * p1.toNatClampNeg) 2)) (C := R_T) (T := F_T) (N := 10) hx hb hts in_T hown hK hP (5 + 2 * p1.toNatClampNeg) (cw_k hj2) rfl 2 (by decide) (va_Nw.use rfl (hN _ nk_C_70)) (fun _ h9 => h9) rfl d_C_response_50 ?_
      refine lv_icmp_gt (tgt := 76) hx hb d_C_response_53 (by decide) (fun _ => ?_) (fun h9 => absurd (rs_lt hcnt (hy0 _ (vi_lt g0))) h9)
      refine lv_iconst (v := (-1)) hx hb d_C_response_76 (by decide) ?_
      exact W.iret (v := (-1)) hx hb hr (fun t ht _ => ⟨by rw [he], ht⟩) (fun _ h => nomatch h) d_C_response_77
    | succ n ih =>
      intro i v2 ls hcnt hone hl g0 he
      rw [f_C_response_L43] at he
      refine lv_iload_n hx hb d_C_response_43 rfl (lv_at hl 3 rfl) ?_
      refine lv_aload_n hx hb d_C_response_44 rfl (lv_at hl 0 rfl) ?_
      refine va_get (D := D) (ci := 0) (v := .ref (ad 1)) (C := R_C) (T := F_C) (N := 7) hx hb hts in_C hown hK hP 0 cw_0 rfl 0 (by decide) (hts _ k_129) (fun _ h9 => h9) rfl d_C_response_45 ?_
      refine lv_iload_n hx hb d_C_response_48 rfl (lv_at hl 1 rfl) ?_
      have hi3 : vp_in p1 8 := (by first | with_reducible assumption | exact vi_isIn7 (by with_reducible assumption) | exact vi_isThing (by with_reducible assumption) | exact vi_decl (by with_reducible assumption) | exact vi_ready (by with_reducible assumption) | exact vi_run (by with_reducible assumption) (by with_reducible assumption) | exact vi_run (by with_reducible assumption) (vi_runner _) | exact vi_mTask (by with_reducible assumption) | exact vi_mThing (by with_reducible assumption) | exact vi_mdecl (by with_reducible assumption) | exact vi_mready (by with_reducible assumption))
      refine va_aldq hx hb hK hP 1 1 cw_1 rfl hi3 d_C_response_49 ?_
      have hj4 : p1.toNatClampNeg < 8 := vi_lt hi3
      refine W.eq (g2 := F0 m 50 ls [.ref (ad (5 + 2 * p1.toNatClampNeg)), .int (nI i)]) rfl ?_
      refine va_getN (D := D) (ci := 1) (v := .int (st (5 + 2 * p1.toNatClampNeg) 2)) (C := R_T) (T := F_T) (N := 10) hx hb hts in_T hown hK hP (5 + 2 * p1.toNatClampNeg) (cw_k hj4) rfl 2 (by decide) (va_Nw.use rfl (hN _ nk_C_70)) (fun _ h9 => h9) rfl d_C_response_50 ?_
      refine lv_icmp_gt (tgt := 76) hx hb d_C_response_53 (by decide) (fun h9 => absurd h9 (rs_ge hcnt hone (hy0 _ (vi_lt g0)))) (fun _ => ?_)
      refine lv_iload_n hx hb d_C_response_56 rfl (lv_at hl 2 rfl) ?_
      refine lv_aload_n hx hb d_C_response_57 rfl (lv_at hl 0 rfl) ?_
      refine lv_iload_n hx hb d_C_response_58 rfl (lv_at hl 1 rfl) ?_
      refine lv_iload_n hx hb d_C_response_59 rfl (lv_at hl 3 rfl) ?_
      refine rdV (As := [.int p1, .int (nI i)]) (rest := [.int v2]) (na := 2) (c_C_demandOfOthers l D cI cT cH ad st p1 (nI i) (by first | with_reducible assumption | exact vi_isIn7 (by with_reducible assumption) | exact vi_isThing (by with_reducible assumption) | exact vi_decl (by with_reducible assumption) | exact vi_ready (by with_reducible assumption) | exact vi_run (by with_reducible assumption) (by with_reducible assumption) | exact vi_run (by with_reducible assumption) (vi_runner _) | exact vi_mTask (by with_reducible assumption) | exact vi_mThing (by with_reducible assumption) | exact vi_mdecl (by with_reducible assumption) | exact vi_mready (by with_reducible assumption))) ⟨hx, hb, hml, hown, hts⟩ k_216 k_218 k_4 k_24 k_219 (by decide +kernel) (by decide) (by decide) hP hK hN (q0 := 0) (ci := 0) cw_0 rfl rfl hl.1 rfl (Nat.le_of_ble_eq_true rfl) d_C_response_60 ?_
      refine lv_iadd hx hb d_C_response_63 ?_
      refine lv_iload_n hx hb d_C_response_64 rfl (lv_at hl 3 rfl) ?_
      refine lv_icmp_ne (tgt := 70) hx hb d_C_response_65 (by decide) (fun hc5 => ?_) (fun hc5 => ?_)
      · have he := he.trans (if_neg hc5)
        refine lv_iinc (k := 3) (v := (nI (i + 1))) hx hb d_C_response_70 hl rfl (by first | rfl | (rw [nI_succ]; rfl)) (by decide) rfl (fun ls hl => ?_)
        have hl : lv_has ls 4 [(3, .int (nI (i + 1))), (0, .ref (ad 0)), (1, .int p1), (2, .int v2)] := hl
        refine lv_goto (tgt := 43) hx hb d_C_response_73 (by decide) ?_
        exact ih (i + 1) v2 ls (by omega) (by omega) (lv_sub hl [1, 2, 3, 0] rfl) (by first | with_reducible assumption | exact Or.inl rfl | exact (fun h9 => absurd h9 (by decide)) | exact (fun h9 => absurd rfl h9) | exact vi_runner _ | exact Or.inr (vp_in_nI (by omega) (by decide)) | exact Or.inr (by first | with_reducible assumption | exact vi_isIn7 (by with_reducible assumption) | exact vi_isThing (by with_reducible assumption) | exact vi_decl (by with_reducible assumption) | exact vi_ready (by with_reducible assumption) | exact vi_run (by with_reducible assumption) (by with_reducible assumption) | exact vi_run (by with_reducible assumption) (vi_runner _) | exact vi_mTask (by with_reducible assumption) | exact vi_mThing (by with_reducible assumption) | exact vi_mdecl (by with_reducible assumption) | exact vi_mready (by with_reducible assumption)) | exact (fun _ => ⟨(by first | with_reducible assumption | exact vi_isIn7 (by with_reducible assumption) | exact vi_isThing (by with_reducible assumption) | exact vi_decl (by with_reducible assumption) | exact vi_ready (by with_reducible assumption) | exact vi_run (by with_reducible assumption) (by with_reducible assumption) | exact vi_run (by with_reducible assumption) (vi_runner _) | exact vi_mTask (by with_reducible assumption) | exact vi_mThing (by with_reducible assumption) | exact vi_mdecl (by with_reducible assumption) | exact vi_mready (by with_reducible assumption)), (by first | with_reducible assumption | exact vi_isIn7 (by with_reducible assumption) | exact vi_isThing (by with_reducible assumption) | exact vi_decl (by with_reducible assumption) | exact vi_ready (by with_reducible assumption) | exact vi_run (by with_reducible assumption) (by with_reducible assumption) | exact vi_run (by with_reducible assumption) (vi_runner _) | exact vi_mTask (by with_reducible assumption) | exact vi_mThing (by with_reducible assumption) | exact vi_mdecl (by with_reducible assumption) | exact vi_mready (by with_reducible assumption))⟩) | exact (fun _ => ⟨vi_latest (by with_reducible assumption) (by with_reducible assumption), vi_run (by with_reducible assumption) (by with_reducible assumption)⟩) | exact (fun _ => (by with_reducible assumption : ¬ v4 = 0 → _) (by with_reducible assumption)) | exact (fun _ => (by first | with_reducible assumption | exact vi_isIn7 (by with_reducible assumption) | exact vi_isThing (by with_reducible assumption) | exact vi_decl (by with_reducible assumption) | exact vi_ready (by with_reducible assumption) | exact vi_run (by with_reducible assumption) (by with_reducible assumption) | exact vi_run (by with_reducible assumption) (vi_runner _) | exact vi_mTask (by with_reducible assumption) | exact vi_mThing (by with_reducible assumption) | exact vi_mdecl (by with_reducible assumption) | exact vi_mready (by with_reducible assumption))) | exact (by first | with_reducible assumption | exact vi_isIn7 (by with_reducible assumption) | exact vi_isThing (by with_reducible assumption) | exact vi_decl (by with_reducible assumption) | exact vi_ready (by with_reducible assumption) | exact vi_run (by with_reducible assumption) (by with_reducible assumption) | exact vi_run (by with_reducible assumption) (vi_runner _) | exact vi_mTask (by with_reducible assumption) | exact vi_mThing (by with_reducible assumption) | exact vi_mdecl (by with_reducible assumption) | exact vi_mready (by with_reducible assumption))) he
      · have he := he.trans (if_pos hc5)
        refine lv_iload_n hx hb d_C_response_68 rfl (lv_at hl 3 rfl) ?_
        exact W.iret (v := (nI i)) hx hb hr (fun t ht _ => ⟨by rw [he], ht⟩) (fun _ h => nomatch h) d_C_response_69
  have he := f_C_response.eq_1 st p1
  refine lv_aload_n hx hb d_C_response_0 rfl (lv_at hl 0 rfl) ?_
  refine va_get (D := D) (ci := 0) (v := .int (st 0 3)) (C := R_C) (T := F_C) (N := 7) hx hb hts in_C hown hK hP 0 cw_0 rfl 3 (by decide) (hts _ k_132) (fun _ h9 => h9) rfl d_C_response_1 ?_
  refine lv_if_eq (tgt := 15) hx hb d_C_response_4 (by decide) (fun hc6 => ?_) (fun hc6 => ?_)
  · have he := he.trans (if_pos hc6)
    refine lv_iconst (v := (-1)) hx hb d_C_response_15 (by decide) ?_
    exact W.iret (v := (-1)) hx hb hr (fun t ht _ => ⟨by rw [he], ht⟩) (fun _ h => nomatch h) d_C_response_16
  · have he := he.trans (if_neg hc6)
    refine lv_aload_n hx hb d_C_response_7 rfl (lv_at hl 0 rfl) ?_
    refine lv_iload_n hx hb d_C_response_8 rfl (lv_at hl 1 rfl) ?_
    refine rdV (As := [.int p1]) (rest := []) (na := 1) (c_C_isDeclared l D cI cT cH ad st p1 ) ⟨hx, hb, hml, hown, hts⟩ k_159 k_161 k_0 k_24 k_162 (by decide +kernel) (by decide) (by decide) hP hK hN (q0 := 0) (ci := 0) cw_0 rfl rfl hl.1 rfl (Nat.le_of_ble_eq_true rfl) d_C_response_9 ?_
    refine lv_if_ne (tgt := 17) hx hb d_C_response_12 (by decide) (fun hc7 => ?_) (fun hc7 => ?_)
    · have he := he.trans (if_neg hc7)
      refine lv_aload_n hx hb d_C_response_17 rfl (lv_at hl 0 rfl) ?_
      refine va_get (D := D) (ci := 0) (v := .ref (ad 1)) (C := R_C) (T := F_C) (N := 7) hx hb hts in_C hown hK hP 0 cw_0 rfl 0 (by decide) (hts _ k_129) (fun _ h9 => h9) rfl d_C_response_18 ?_
      refine lv_iload_n hx hb d_C_response_21 rfl (lv_at hl 1 rfl) ?_
      have hi8 : vp_in p1 8 := (by first | with_reducible assumption | exact vi_isIn7 (by with_reducible assumption) | exact vi_isThing (by with_reducible assumption) | exact vi_decl (by with_reducible assumption) | exact vi_ready (by with_reducible assumption) | exact vi_run (by with_reducible assumption) (by with_reducible assumption) | exact vi_run (by with_reducible assumption) (vi_runner _) | exact vi_mTask (by with_reducible assumption) | exact vi_mThing (by with_reducible assumption) | exact vi_mdecl (by with_reducible assumption) | exact vi_mready (by with_reducible assumption))
      refine va_aldq hx hb hK hP 1 1 cw_1 rfl hi8 d_C_response_22 ?_
      have hj9 : p1.toNatClampNeg < 8 := vi_lt hi8
      refine W.eq (g2 := F0 m 23 ls [.ref (ad (5 + 2 * p1.toNatClampNeg))]) rfl ?_
      refine va_getN (D := D) (ci := 1) (v := .int (st (5 + 2 * p1.toNatClampNeg) 1)) (C := R_T) (T := F_T) (N := 10) hx hb hts in_T hown hK hP (5 + 2 * p1.toNatClampNeg) (cw_k hj9) rfl 1 (by decide) (va_Nw.use rfl (hN _ nk_C_67)) (fun _ h9 => h9) rfl d_C_response_23 ?_
      refine lv_aload_n hx hb d_C_response_26 rfl (lv_at hl 0 rfl) ?_
      refine lv_aload_n hx hb d_C_response_27 rfl (lv_at hl 0 rfl) ?_
      refine va_get (D := D) (ci := 0) (v := .ref (ad 1)) (C := R_C) (T := F_C) (N := 7) hx hb hts in_C hown hK hP 0 cw_0 rfl 0 (by decide) (hts _ k_129) (fun _ h9 => h9) rfl d_C_response_28 ?_
      refine lv_iload_n hx hb d_C_response_31 rfl (lv_at hl 1 rfl) ?_
      have hi10 : vp_in p1 8 := (by first | with_reducible assumption | exact vi_isIn7 (by with_reducible assumption) | exact vi_isThing (by with_reducible assumption) | exact vi_decl (by with_reducible assumption) | exact vi_ready (by with_reducible assumption) | exact vi_run (by with_reducible assumption) (by with_reducible assumption) | exact vi_run (by with_reducible assumption) (vi_runner _) | exact vi_mTask (by with_reducible assumption) | exact vi_mThing (by with_reducible assumption) | exact vi_mdecl (by with_reducible assumption) | exact vi_mready (by with_reducible assumption))
      refine va_aldq hx hb hK hP 1 1 cw_1 rfl hi10 d_C_response_32 ?_
      have hj11 : p1.toNatClampNeg < 8 := vi_lt hi10
      refine W.eq (g2 := F0 m 33 ls [.ref (ad (5 + 2 * p1.toNatClampNeg)), .ref (ad 0), .int (st (5 + 2 * p1.toNatClampNeg) 1)]) rfl ?_
      refine va_getN (D := D) (ci := 1) (v := .int (st (5 + 2 * p1.toNatClampNeg) 0)) (C := R_T) (T := F_T) (N := 10) hx hb hts in_T hown hK hP (5 + 2 * p1.toNatClampNeg) (cw_k hj11) rfl 0 (by decide) (va_Nw.use rfl (hN _ nk_C_64)) (fun _ h9 => h9) rfl d_C_response_33 ?_
      refine rdV (As := [.int (st (5 + 2 * p1.toNatClampNeg) 0)]) (rest := [.int (st (5 + 2 * p1.toNatClampNeg) 1)]) (na := 1) (c_C_longestBlockingAt l D cI cT cH ad st (st (5 + 2 * p1.toNatClampNeg) 0) ) ⟨hx, hb, hml, hown, hts⟩ k_201 k_203 k_2 k_24 k_204 (by decide +kernel) (by decide) (by decide) hP hK hN (q0 := 0) (ci := 0) cw_0 rfl rfl hl.1 rfl (Nat.le_of_ble_eq_true rfl) d_C_response_36 ?_
      refine lv_iadd hx hb d_C_response_39 ?_
      refine lv_istore_n hx hb d_C_response_40 rfl hl (by decide) rfl (fun ls hl => ?_)
      have hl : lv_has ls 4 [(2, .int ((st (5 + 2 * p1.toNatClampNeg) 1) + (f_C_longestBlockingAt st (st (5 + 2 * p1.toNatClampNeg) 0)))), (0, .ref (ad 0)), (1, .int p1)] := hl
      refine lv_iconst (v := 1) hx hb d_C_response_41 (by decide) ?_
      refine lv_istore_n hx hb d_C_response_42 rfl hl (by decide) rfl (fun ls hl => ?_)
      have hl : lv_has ls 4 [(3, .int 1), (2, .int ((st (5 + 2 * p1.toNatClampNeg) 1) + (f_C_longestBlockingAt st (st (5 + 2 * p1.toNatClampNeg) 0)))), (0, .ref (ad 0)), (1, .int p1)] := hl
      exact L43 _ 1 ((st (5 + 2 * p1.toNatClampNeg) 1) + (f_C_longestBlockingAt st (st (5 + 2 * p1.toNatClampNeg) 0))) ls (by first | decide | omega) (by decide) (lv_sub hl [2, 3, 1, 0] rfl) (by first | with_reducible assumption | exact Or.inl rfl | exact (fun h9 => absurd h9 (by decide)) | exact (fun h9 => absurd rfl h9) | exact vi_runner _ | exact Or.inr (vp_in_nI (by omega) (by decide)) | exact Or.inr (by first | with_reducible assumption | exact vi_isIn7 (by with_reducible assumption) | exact vi_isThing (by with_reducible assumption) | exact vi_decl (by with_reducible assumption) | exact vi_ready (by with_reducible assumption) | exact vi_run (by with_reducible assumption) (by with_reducible assumption) | exact vi_run (by with_reducible assumption) (vi_runner _) | exact vi_mTask (by with_reducible assumption) | exact vi_mThing (by with_reducible assumption) | exact vi_mdecl (by with_reducible assumption) | exact vi_mready (by with_reducible assumption)) | exact (fun _ => ⟨(by first | with_reducible assumption | exact vi_isIn7 (by with_reducible assumption) | exact vi_isThing (by with_reducible assumption) | exact vi_decl (by with_reducible assumption) | exact vi_ready (by with_reducible assumption) | exact vi_run (by with_reducible assumption) (by with_reducible assumption) | exact vi_run (by with_reducible assumption) (vi_runner _) | exact vi_mTask (by with_reducible assumption) | exact vi_mThing (by with_reducible assumption) | exact vi_mdecl (by with_reducible assumption) | exact vi_mready (by with_reducible assumption)), (by first | with_reducible assumption | exact vi_isIn7 (by with_reducible assumption) | exact vi_isThing (by with_reducible assumption) | exact vi_decl (by with_reducible assumption) | exact vi_ready (by with_reducible assumption) | exact vi_run (by with_reducible assumption) (by with_reducible assumption) | exact vi_run (by with_reducible assumption) (vi_runner _) | exact vi_mTask (by with_reducible assumption) | exact vi_mThing (by with_reducible assumption) | exact vi_mdecl (by with_reducible assumption) | exact vi_mready (by with_reducible assumption))⟩) | exact (fun _ => ⟨vi_latest (by with_reducible assumption) (by with_reducible assumption), vi_run (by with_reducible assumption) (by with_reducible assumption)⟩) | exact (fun _ => (by with_reducible assumption : ¬ v4 = 0 → _) (by with_reducible assumption)) | exact (fun _ => (by first | with_reducible assumption | exact vi_isIn7 (by with_reducible assumption) | exact vi_isThing (by with_reducible assumption) | exact vi_decl (by with_reducible assumption) | exact vi_ready (by with_reducible assumption) | exact vi_run (by with_reducible assumption) (by with_reducible assumption) | exact vi_run (by with_reducible assumption) (vi_runner _) | exact vi_mTask (by with_reducible assumption) | exact vi_mThing (by with_reducible assumption) | exact vi_mdecl (by with_reducible assumption) | exact vi_mready (by with_reducible assumption))) | exact (by first | with_reducible assumption | exact vi_isIn7 (by with_reducible assumption) | exact vi_isThing (by with_reducible assumption) | exact vi_decl (by with_reducible assumption) | exact vi_ready (by with_reducible assumption) | exact vi_run (by with_reducible assumption) (by with_reducible assumption) | exact vi_run (by with_reducible assumption) (vi_runner _) | exact vi_mTask (by with_reducible assumption) | exact vi_mThing (by with_reducible assumption) | exact vi_mdecl (by with_reducible assumption) | exact vi_mready (by with_reducible assumption))) he
    · have he := he.trans (if_pos hc7)
      refine lv_iconst (v := (-1)) hx hb d_C_response_15 (by decide) ?_
      exact W.iret (v := (-1)) hx hb hr (fun t ht _ => ⟨by rw [he], ht⟩) (fun _ h => nomatch h) d_C_response_16
set_option maxHeartbeats 4000000 in
set_option maxRecDepth 100000 in
theorem c_C_notes (l : Launch) (D : va_G) (cI cT cH : ClassId) (ad : Nat → Nat) (st : St) : Met l y_C_notes w_C_notes { frames := 0, cells := 0, slots := 0, locals := 0 } (va_Pc [.ref (ad 0)] (gW D cI cT cH (cw cI cT cH ad st))) (QcRead (f_C_notes st)) 0 0 (fun _ => False) := by
  refine Met.ofW (cc := b_C_notes) (maxL := 1) (ret := (some .int)) (by decide +kernel) rfl ?_
  intro p e s m args below meth c s₁ B hml hv
  obtain ⟨rfl, hP, hK, hN⟩ := hv
  have hx := B.exec
  have hb := B.bytes
  have hr := B.returns
  have hlocks := B.notSynchronized
  have hts0 := atoms_spec (ws := w_C_notes) B.pre
  have hts : ∀ w ∈ TT, w.before [.ref (ad 0)].toArray s = true := fun w h => hts0 w (List.mem_cons_of_mem _ h)
  have hown : s.vm.findClass R_C = some m.cls := findClass_of_methodNamed B.named
  have hl := lv_entry ([.ref (ad 0)]) (n := 1) (Nat.le_of_ble_eq_true rfl)
  rw [lg_entry_eq]
  generalize (lg_sl ([.ref (ad 0)]) ++ List.replicate (1 - (lg_sl ([.ref (ad 0)])).length) Slot.unset).toArray = ls at hl ⊢
  have hl : lv_has ls 1 [(0, .ref (ad 0))] := hl
  have he := f_C_notes.eq_1 st
  refine lv_aload_n hx hb d_C_notes_0 rfl (lv_at hl 0 rfl) ?_
  refine va_get (D := D) (ci := 0) (v := .ref (ad 3)) (C := R_C) (T := F_C) (N := 7) hx hb hts in_C hown hK hP 0 cw_0 rfl 2 (by decide) (hts _ k_131) (fun _ h9 => h9) rfl d_C_notes_1 ?_
  refine va_getN (D := D) (ci := 3) (v := .int (st 3 1)) (C := R_N) (T := F_N) (N := 2) hx hb hts in_N hown hK hP 3 cw_3 rfl 1 (by decide) (va_Nw.use rfl (hN _ nk_C_171)) (fun _ h9 => h9) rfl d_C_notes_4 ?_
  exact W.iret (v := (st 3 1)) hx hb hr (fun t ht _ => ⟨by rw [he], ht⟩) (fun _ h => nomatch h) d_C_notes_7
set_option maxHeartbeats 4000000 in
set_option maxRecDepth 100000 in
theorem c_C_note (l : Launch) (D : va_G) (cI cT cH : ClassId) (ad : Nat → Nat) (st : St) (p1 : Int32) : Met l y_C_note w_C_note { frames := 2, cells := 0, slots := 0, locals := 43 } (va_Pc [.ref (ad 0), .int p1] (gW D cI cT cH (cw cI cT cH ad st))) (QcRead (f_C_note st p1)) 0 0 (fun _ => False) := by
  refine Met.ofW (cc := b_C_note) (maxL := 2) (ret := (some .int)) (by decide +kernel) rfl ?_
  intro p e s m args below meth c s₁ B hml hv
  obtain ⟨rfl, hP, hK, hN⟩ := hv
  have hx := B.exec
  have hb := B.bytes
  have hr := B.returns
  have hlocks := B.notSynchronized
  have hts0 := atoms_spec (ws := w_C_note) B.pre
  have hts : ∀ w ∈ TT, w.before [.ref (ad 0), .int p1].toArray s = true := fun w h => hts0 w (List.mem_cons_of_mem _ h)
  have hown : s.vm.findClass R_C = some m.cls := findClass_of_methodNamed B.named
  have hl := lv_entry ([.ref (ad 0), .int p1]) (n := 2) (Nat.le_of_ble_eq_true rfl)
  rw [lg_entry_eq]
  generalize (lg_sl ([.ref (ad 0), .int p1]) ++ List.replicate (2 - (lg_sl ([.ref (ad 0), .int p1])).length) Slot.unset).toArray = ls at hl ⊢
  have hl : lv_has ls 2 [(0, .ref (ad 0)), (1, .int p1)] := hl
  have he := f_C_note.eq_1 st p1
  refine lv_aload_n hx hb d_C_note_0 rfl (lv_at hl 0 rfl) ?_
  refine va_get (D := D) (ci := 0) (v := .ref (ad 3)) (C := R_C) (T := F_C) (N := 7) hx hb hts in_C hown hK hP 0 cw_0 rfl 2 (by decide) (hts _ k_131) (fun _ h9 => h9) rfl d_C_note_1 ?_
  refine lv_iload_n hx hb d_C_note_4 rfl (lv_at hl 1 rfl) ?_
  refine rdV (As := [.int p1]) (rest := []) (na := 1) (c_N_fromLatest l D cI cT cH ad st p1 ) ⟨hx, hb, hml, hown, hts⟩ k_233 k_234 k_235 k_25 k_236 (by decide +kernel) (by decide) (by decide) hP hK hN (q0 := 3) (ci := 3) cw_3 rfl rfl hl.1 rfl (Nat.le_of_ble_eq_true rfl) d_C_note_5 ?_
  exact W.iret (v := (f_N_fromLatest st p1)) hx hb hr (fun t ht _ => ⟨by rw [he], ht⟩) (fun _ h => nomatch h) d_C_note_8
end
section
set_option maxHeartbeats 4000000 in
set_option maxRecDepth 100000 in
theorem c_C_declare (l : Launch) (D : va_G) (cI cT cH : ClassId) (ad : Nat → Nat) (st : St) (p1 : Int32) (p2 : Int32) (p3 : Int32) (p4 : Int32) (hl0 : l.stackTraces = false) (hI : ∀ i j, i < 27 → j < 27 → ad i = ad j → i = j) : vx_Met l y_C_declare w_C_declare { frames := 7, cells := 1, slots := 6, locals := 100 } (va_Pc [.ref (ad 0), .int p1, .int p2, .int p3, .int p4] (xW D cI cT cH (cw cI cT cH ad st) (inA ad 27))) (qXV D (f_C_declare st p1 p2 p3 p4) (fun z => cw cI cT cH ad z) (inA ad 27)) (qX D (f_C_declare st p1 p2 p3 p4) (cw cI cT cH ad st) (inA ad 27)) 1 6 (inA ad 27) := by
  refine vx_ofW (cc := b_C_declare) (maxL := 6) (ret := none) (by decide +kernel) rfl ?_
  intro p e s m args below meth c s₁ B hml hnt hv
  obtain ⟨rfl, ⟨hP, hK, hN⟩, hXU, hXN, hXR⟩ := hv
  have hx := B.exec
  have hb := B.bytes
  have hr := B.returns
  have hlocks := B.notSynchronized
  have hts0 := atoms_spec (ws := w_C_declare) B.pre
  have hts : ∀ w ∈ TT, w.before [.ref (ad 0), .int p1, .int p2, .int p3, .int p4].toArray s = true := fun w h => hts0 w (List.mem_cons_of_mem _ h)
  have hown : s.vm.findClass R_C = some m.cls := findClass_of_methodNamed B.named
  have hS : va_S (inA ad 27) s.heap s.heap [] := va_S.rf
  have hl := lv_entry ([.ref (ad 0), .int p1, .int p2, .int p3, .int p4]) (n := 6) (Nat.le_of_ble_eq_true rfl)
  rw [lg_entry_eq]
  generalize (lg_sl ([.ref (ad 0), .int p1, .int p2, .int p3, .int p4]) ++ List.replicate (6 - (lg_sl ([.ref (ad 0), .int p1, .int p2, .int p3, .int p4])).length) Slot.unset).toArray = ls at hl ⊢
  have hl : lv_has ls 6 [(0, .ref (ad 0)), (1, .int p1), (2, .int p2), (3, .int p3), (4, .int p4)] := hl
  have he := f_C_declare.eq_1 st p1 p2 p3 p4
  refine lv_aload_n hx hb d_C_declare_0 rfl (lv_at hl 0 rfl) ?_
  refine va_get (D := D) (ci := 0) (v := .int (st 0 3)) (C := R_C) (T := F_C) (N := 7) hx hb hts in_C hown hK hP 0 cw_0 rfl 3 (by decide) (hts _ k_132) (fun _ h9 => h9) rfl d_C_declare_1 ?_
  refine lv_if_ne (tgt := 15) hx hb d_C_declare_4 (by decide) (fun hc1 => ?_) (fun hc1 => ?_)
  · have he := he.trans (if_neg hc1)
    obtain ⟨sa, hsa⟩ := hXR (50, "sealed, or the task is declared") (List.mem_of_getElem? (i := 0) rfl)
    exact vx_throwS (own := R_C) (cls := eS) (text := "sealed, or the task is declared") (names := xn9) (ik := 48) (is := 50) (ic := 52) (sa := sa) hx hb hl0 hown (by decide) (by decide) (hts _ k_249) (hts _ k_32) hsa (fun w hw => hts w (xat_52 w hw)) (xgd_52_48) hXU hXN hS (hl.1.trans hml.symm) d_C_declare_15 d_C_declare_18 d_C_declare_19 d_C_declare_21 d_C_declare_24 (fun x h => (hnt x h).elim) (by decide) (by decide) (by decide) (by decide) hlocks (fun t _ hz hq => ⟨(), trivial, ⟨Or.inl ⟨by rw [he], rfl⟩, hP.kept (fun k q hk => hq _ (vx_lt hP hk))⟩, hz, fun q h1 _ => hq q h1⟩) hS.2.2 (by decide) (by decide)
  · have he := he.trans (if_pos hc1)
    refine lv_aload_n hx hb d_C_declare_7 rfl (lv_at hl 0 rfl) ?_
    refine lv_iload_n hx hb d_C_declare_8 rfl (lv_at hl 1 rfl) ?_
    refine rdV (As := [.int p1]) (rest := []) (na := 1) (c_C_isDeclared l D cI cT cH ad st p1 ) ⟨hx, hb, hml, hown, hts⟩ k_159 k_161 k_0 k_24 k_162 (by decide +kernel) (by decide) (by decide) hP hK hN (q0 := 0) (ci := 0) cw_0 rfl rfl hl.1 rfl (Nat.le_of_ble_eq_true rfl) d_C_declare_9 ?_
    refine lv_if_eq (tgt := 25) hx hb d_C_declare_12 (by decide) (fun hc2 => ?_) (fun hc2 => ?_)
    · have he := he.trans (if_pos hc2)
      refine lv_iload_n hx hb d_C_declare_25 rfl (lv_at hl 1 rfl) ?_
      refine lv_iconst (v := 0) hx hb d_C_declare_26 (by decide) ?_
      refine lv_bipush (v := 7) hx hb d_C_declare_27 (by decide) ?_
      refine rdS (As := [.int p1, .int 0, .int 7]) (rest := []) (na := 3) (c_C_isIn l p1 0 7 ) ⟨hx, hb, hml, hown, hts⟩ k_163 k_164 k_24 k_165 (by decide +kernel) (by decide) (by decide) rfl hl.1 rfl (Nat.le_of_ble_eq_true rfl) d_C_declare_29 ?_
      refine lv_if_eq (tgt := 67) hx hb d_C_declare_32 (by decide) (fun hc3 => ?_) (fun hc3 => ?_)
      · have he := he.trans (if_pos hc3)
        obtain ⟨sa, hsa⟩ := hXR (61, "no such task, base, cost or period") (List.mem_of_getElem? (i := 1) rfl)
        exact vx_throwS (own := R_C) (cls := eA) (text := "no such task, base, cost or period") (names := xn9) (ik := 59) (is := 61) (ic := 63) (sa := sa) hx hb hl0 hown (by decide) (by decide) (hts _ k_316) (hts _ k_33) hsa (fun w hw => hts w (xat_63 w hw)) (xgd_63_59) hXU hXN hS (hl.1.trans hml.symm) d_C_declare_67 d_C_declare_70 d_C_declare_71 d_C_declare_73 d_C_declare_76 (fun x h => (hnt x h).elim) (by decide) (by decide) (by decide) (by decide) hlocks (fun t _ hz hq => ⟨(), trivial, ⟨Or.inr ⟨by rw [he], rfl⟩, hP.kept (fun k q hk => hq _ (vx_lt hP hk))⟩, hz, fun q h1 _ => hq q h1⟩) hS.2.2 (by decide) (by decide)
      · have he := he.trans (if_neg hc3)
        refine lv_iload_n hx hb d_C_declare_35 rfl (lv_at hl 2 rfl) ?_
        refine lv_iconst (v := 1) hx hb d_C_declare_36 (by decide) ?_
        refine lv_bipush (v := 16) hx hb d_C_declare_37 (by decide) ?_
        refine rdS (As := [.int p2, .int 1, .int 16]) (rest := []) (na := 3) (c_C_isIn l p2 1 16 ) ⟨hx, hb, hml, hown, hts⟩ k_163 k_164 k_24 k_165 (by decide +kernel) (by decide) (by decide) rfl hl.1 rfl (Nat.le_of_ble_eq_true rfl) d_C_declare_39 ?_
        refine lv_if_eq (tgt := 67) hx hb d_C_declare_42 (by decide) (fun hc4 => ?_) (fun hc4 => ?_)
        · have he := he.trans (if_pos hc4)
          obtain ⟨sa, hsa⟩ := hXR (61, "no such task, base, cost or period") (List.mem_of_getElem? (i := 1) rfl)
          exact vx_throwS (own := R_C) (cls := eA) (text := "no such task, base, cost or period") (names := xn9) (ik := 59) (is := 61) (ic := 63) (sa := sa) hx hb hl0 hown (by decide) (by decide) (hts _ k_316) (hts _ k_33) hsa (fun w hw => hts w (xat_63 w hw)) (xgd_63_59) hXU hXN hS (hl.1.trans hml.symm) d_C_declare_67 d_C_declare_70 d_C_declare_71 d_C_declare_73 d_C_declare_76 (fun x h => (hnt x h).elim) (by decide) (by decide) (by decide) (by decide) hlocks (fun t _ hz hq => ⟨(), trivial, ⟨Or.inr ⟨by rw [he], rfl⟩, hP.kept (fun k q hk => hq _ (vx_lt hP hk))⟩, hz, fun q h1 _ => hq q h1⟩) hS.2.2 (by decide) (by decide)
        · have he := he.trans (if_neg hc4)
          refine lv_iload_n hx hb d_C_declare_45 rfl (lv_at hl 3 rfl) ?_
          refine lv_iconst (v := 1) hx hb d_C_declare_46 (by decide) ?_
          refine lv_bipush (v := 50) hx hb d_C_declare_47 (by decide) ?_
          refine rdS (As := [.int p3, .int 1, .int 50]) (rest := []) (na := 3) (c_C_isIn l p3 1 50 ) ⟨hx, hb, hml, hown, hts⟩ k_163 k_164 k_24 k_165 (by decide +kernel) (by decide) (by decide) rfl hl.1 rfl (Nat.le_of_ble_eq_true rfl) d_C_declare_49 ?_
          refine lv_if_eq (tgt := 67) hx hb d_C_declare_52 (by decide) (fun hc5 => ?_) (fun hc5 => ?_)
          · have he := he.trans (if_pos hc5)
            obtain ⟨sa, hsa⟩ := hXR (61, "no such task, base, cost or period") (List.mem_of_getElem? (i := 1) rfl)
            exact vx_throwS (own := R_C) (cls := eA) (text := "no such task, base, cost or period") (names := xn9) (ik := 59) (is := 61) (ic := 63) (sa := sa) hx hb hl0 hown (by decide) (by decide) (hts _ k_316) (hts _ k_33) hsa (fun w hw => hts w (xat_63 w hw)) (xgd_63_59) hXU hXN hS (hl.1.trans hml.symm) d_C_declare_67 d_C_declare_70 d_C_declare_71 d_C_declare_73 d_C_declare_76 (fun x h => (hnt x h).elim) (by decide) (by decide) (by decide) (by decide) hlocks (fun t _ hz hq => ⟨(), trivial, ⟨Or.inr ⟨by rw [he], rfl⟩, hP.kept (fun k q hk => hq _ (vx_lt hP hk))⟩, hz, fun q h1 _ => hq q h1⟩) hS.2.2 (by decide) (by decide)
          · have he := he.trans (if_neg hc5)
            refine lv_iload hx hb d_C_declare_55 (lv_at hl 4 rfl) ?_
            refine lv_iconst (v := 1) hx hb d_C_declare_57 (by decide) ?_
            refine lv_sipush (v := 200) hx hb d_C_declare_58 (by decide) ?_
            refine rdS (As := [.int p4, .int 1, .int 200]) (rest := []) (na := 3) (c_C_isIn l p4 1 200 ) ⟨hx, hb, hml, hown, hts⟩ k_163 k_164 k_24 k_165 (by decide +kernel) (by decide) (by decide) rfl hl.1 rfl (Nat.le_of_ble_eq_true rfl) d_C_declare_61 ?_
            refine lv_if_ne (tgt := 77) hx hb d_C_declare_64 (by decide) (fun hc6 => ?_) (fun hc6 => ?_)
            · have he := he.trans (if_neg hc6)
              refine lv_aload_n hx hb d_C_declare_77 rfl (lv_at hl 0 rfl) ?_
              refine va_get (D := D) (ci := 0) (v := .ref (ad 1)) (C := R_C) (T := F_C) (N := 7) hx hb hts in_C hown hK hP 0 cw_0 rfl 0 (by decide) (hts _ k_129) (fun _ h9 => h9) rfl d_C_declare_78 ?_
              refine lv_iload_n hx hb d_C_declare_81 rfl (lv_at hl 1 rfl) ?_
              have hi7 : vp_in p1 8 := (by first | with_reducible assumption | exact vi_isIn7 (by with_reducible assumption) | exact vi_isThing (by with_reducible assumption) | exact vi_decl (by with_reducible assumption) | exact vi_ready (by with_reducible assumption) | exact vi_run (by with_reducible assumption) (by with_reducible assumption) | exact vi_run (by with_reducible assumption) (vi_runner _) | exact vi_mTask (by with_reducible assumption) | exact vi_mThing (by with_reducible assumption) | exact vi_mdecl (by with_reducible assumption) | exact vi_mready (by with_reducible assumption))
              refine va_aldq hx hb hK hP 1 1 cw_1 rfl hi7 d_C_declare_82 ?_
              have hj8 : p1.toNatClampNeg < 8 := vi_lt hi7
              refine W.eq (g2 := F0 m 83 ls [.ref (ad (5 + 2 * p1.toNatClampNeg))]) rfl ?_
              refine lv_astore hx hb d_C_declare_83 hl (by decide) rfl (fun ls hl => ?_)
              have hl : lv_has ls 6 [(5, .ref (ad (5 + 2 * p1.toNatClampNeg))), (0, .ref (ad 0)), (1, .int p1), (2, .int p2), (3, .int p3), (4, .int p4)] := hl
              refine lv_aload hx hb d_C_declare_85 (lv_at hl 0 rfl) ?_
              refine lv_iload_n hx hb d_C_declare_87 rfl (lv_at hl 3 rfl) ?_
              refine va_putN (D := D) (ci := 1) (v := .int p2) (ty := .int) (C := R_T) (T := F_T) (N := 10) hx hb hts in_T ft_T ft_T_ok n_T hown hK hP (cw_D hI) hS (5 + 2 * p1.toNatClampNeg) (cw_k hj8) rfl 0 (by decide) (va_Nw.use rfl (hN _ nk_C_64)) (fun _ h9 => h9) rfl (by decide +kernel) rfl rfl (Nat.le_of_ble_eq_true rfl) d_C_declare_88 (fun H locs hP _ hS => ?_)
              rw [cp_k (k := 0) hj8 (by decide) (by decide)] at hP
              generalize hw10 : wr st (5 + 2 * p1.toNatClampNeg) 0 p2 = sw9 at hP he
              refine W.eq (g2 := F0 m 91 ls []) rfl ?_
              rw [f_C_declare_S91] at he
              refine lv_aload hx hb d_C_declare_91 (lv_at hl 0 rfl) ?_
              refine lv_iload_n hx hb d_C_declare_93 rfl (lv_at hl 4 rfl) ?_
              refine va_putN (D := D) (ci := 1) (v := .int p3) (ty := .int) (C := R_T) (T := F_T) (N := 10) hx hb hts in_T ft_T ft_T_ok n_T hown hK hP (cw_D hI) hS (5 + 2 * p1.toNatClampNeg) (cw_k hj8) rfl 1 (by decide) (va_Nw.use rfl (hN _ nk_C_67)) (fun _ h9 => h9) rfl (by decide +kernel) rfl rfl (Nat.le_of_ble_eq_true rfl) d_C_declare_94 (fun H locs hP _ hS => ?_)
              rw [cp_k (k := 1) hj8 (by decide) (by decide)] at hP
              generalize hw12 : wr sw9 (5 + 2 * p1.toNatClampNeg) 1 p3 = sw11 at hP he
              refine W.eq (g2 := F0 m 97 ls []) rfl ?_
              rw [f_C_declare_S97] at he
              refine lv_aload hx hb d_C_declare_97 (lv_at hl 0 rfl) ?_
              refine lv_iload hx hb d_C_declare_99 (lv_at hl 5 rfl) ?_
              refine va_putN (D := D) (ci := 1) (v := .int p4) (ty := .int) (C := R_T) (T := F_T) (N := 10) hx hb hts in_T ft_T ft_T_ok n_T hown hK hP (cw_D hI) hS (5 + 2 * p1.toNatClampNeg) (cw_k hj8) rfl 2 (by decide) (va_Nw.use rfl (hN _ nk_C_70)) (fun _ h9 => h9) rfl (by decide +kernel) rfl rfl (Nat.le_of_ble_eq_true rfl) d_C_declare_101 (fun H locs hP _ hS => ?_)
              rw [cp_k (k := 2) hj8 (by decide) (by decide)] at hP
              generalize hw14 : wr sw11 (5 + 2 * p1.toNatClampNeg) 2 p4 = sw13 at hP he
              refine W.eq (g2 := F0 m 104 ls []) rfl ?_
              exact vx_ret (W.widen (k := 1) (n := 6) (by decide) (by decide) (W.vret hx hb hr (fun t ht _ => ⟨⟨(), rfl, by rw [he], (by rw [he]; show va_P _ _ _ t.heap; rw [ht]; exact hP)⟩, hS.F ht⟩) hS.2.2 d_C_declare_104))
            · have he := he.trans (if_pos hc6)
              obtain ⟨sa, hsa⟩ := hXR (61, "no such task, base, cost or period") (List.mem_of_getElem? (i := 1) rfl)
              exact vx_throwS (own := R_C) (cls := eA) (text := "no such task, base, cost or period") (names := xn9) (ik := 59) (is := 61) (ic := 63) (sa := sa) hx hb hl0 hown (by decide) (by decide) (hts _ k_316) (hts _ k_33) hsa (fun w hw => hts w (xat_63 w hw)) (xgd_63_59) hXU hXN hS (hl.1.trans hml.symm) d_C_declare_67 d_C_declare_70 d_C_declare_71 d_C_declare_73 d_C_declare_76 (fun x h => (hnt x h).elim) (by decide) (by decide) (by decide) (by decide) hlocks (fun t _ hz hq => ⟨(), trivial, ⟨Or.inr ⟨by rw [he], rfl⟩, hP.kept (fun k q hk => hq _ (vx_lt hP hk))⟩, hz, fun q h1 _ => hq q h1⟩) hS.2.2 (by decide) (by decide)
    · have he := he.trans (if_neg hc2)
      obtain ⟨sa, hsa⟩ := hXR (50, "sealed, or the task is declared") (List.mem_of_getElem? (i := 0) rfl)
      exact vx_throwS (own := R_C) (cls := eS) (text := "sealed, or the task is declared") (names := xn9) (ik := 48) (is := 50) (ic := 52) (sa := sa) hx hb hl0 hown (by decide) (by decide) (hts _ k_249) (hts _ k_32) hsa (fun w hw => hts w (xat_52 w hw)) (xgd_52_48) hXU hXN hS (hl.1.trans hml.symm) d_C_declare_15 d_C_declare_18 d_C_declare_19 d_C_declare_21 d_C_declare_24 (fun x h => (hnt x h).elim) (by decide) (by decide) (by decide) (by decide) hlocks (fun t _ hz hq => ⟨(), trivial, ⟨Or.inl ⟨by rw [he], rfl⟩, hP.kept (fun k q hk => hq _ (vx_lt hP hk))⟩, hz, fun q h1 _ => hq q h1⟩) hS.2.2 (by decide) (by decide)
set_option maxHeartbeats 4000000 in
set_option maxRecDepth 100000 in
theorem c_C_mayUse (l : Launch) (D : va_G) (cI cT cH : ClassId) (ad : Nat → Nat) (st : St) (p1 : Int32) (p2 : Int32) (p3 : Int32) (hl0 : l.stackTraces = false) (hI : ∀ i j, i < 27 → j < 27 → ad i = ad j → i = j) : vx_Met l y_C_mayUse w_C_mayUse { frames := 7, cells := 1, slots := 6, locals := 100 } (va_Pc [.ref (ad 0), .int p1, .int p2, .int p3] (xW D cI cT cH (cw cI cT cH ad st) (inA ad 27))) (qXV D (f_C_mayUse st p1 p2 p3) (fun z => cw cI cT cH ad z) (inA ad 27)) (qX D (f_C_mayUse st p1 p2 p3) (cw cI cT cH ad st) (inA ad 27)) 1 6 (inA ad 27) := by
  refine vx_ofW (cc := b_C_mayUse) (maxL := 4) (ret := none) (by decide +kernel) rfl ?_
  intro p e s m args below meth c s₁ B hml hnt hv
  obtain ⟨rfl, ⟨hP, hK, hN⟩, hXU, hXN, hXR⟩ := hv
  have hx := B.exec
  have hb := B.bytes
  have hr := B.returns
  have hlocks := B.notSynchronized
  have hts0 := atoms_spec (ws := w_C_mayUse) B.pre
  have hts : ∀ w ∈ TT, w.before [.ref (ad 0), .int p1, .int p2, .int p3].toArray s = true := fun w h => hts0 w (List.mem_cons_of_mem _ h)
  have hown : s.vm.findClass R_C = some m.cls := findClass_of_methodNamed B.named
  have hS : va_S (inA ad 27) s.heap s.heap [] := va_S.rf
  have hl := lv_entry ([.ref (ad 0), .int p1, .int p2, .int p3]) (n := 4) (Nat.le_of_ble_eq_true rfl)
  rw [lg_entry_eq]
  generalize (lg_sl ([.ref (ad 0), .int p1, .int p2, .int p3]) ++ List.replicate (4 - (lg_sl ([.ref (ad 0), .int p1, .int p2, .int p3])).length) Slot.unset).toArray = ls at hl ⊢
  have hl : lv_has ls 4 [(0, .ref (ad 0)), (1, .int p1), (2, .int p2), (3, .int p3)] := hl
  have he := f_C_mayUse.eq_1 st p1 p2 p3
  refine lv_aload_n hx hb d_C_mayUse_0 rfl (lv_at hl 0 rfl) ?_
  refine va_get (D := D) (ci := 0) (v := .int (st 0 3)) (C := R_C) (T := F_C) (N := 7) hx hb hts in_C hown hK hP 0 cw_0 rfl 3 (by decide) (hts _ k_132) (fun _ h9 => h9) rfl d_C_mayUse_1 ?_
  refine lv_if_eq (tgt := 17) hx hb d_C_mayUse_4 (by decide) (fun hc1 => ?_) (fun hc1 => ?_)
  · have he := he.trans (if_pos hc1)
    refine lv_aload_n hx hb d_C_mayUse_17 rfl (lv_at hl 0 rfl) ?_
    refine lv_iload_n hx hb d_C_mayUse_18 rfl (lv_at hl 1 rfl) ?_
    refine rdV (As := [.int p1]) (rest := []) (na := 1) (c_C_isDeclared l D cI cT cH ad st p1 ) ⟨hx, hb, hml, hown, hts⟩ k_159 k_161 k_0 k_24 k_162 (by decide +kernel) (by decide) (by decide) hP hK hN (q0 := 0) (ci := 0) cw_0 rfl rfl hl.1 rfl (Nat.le_of_ble_eq_true rfl) d_C_mayUse_19 ?_
    refine lv_if_eq (tgt := 42) hx hb d_C_mayUse_22 (by decide) (fun hc2 => ?_) (fun hc2 => ?_)
    · have he := he.trans (if_pos hc2)
      obtain ⟨sa, hsa⟩ := hXR (77, "the task is not declared, or no such thing or length") (List.mem_of_getElem? (i := 3) rfl)
      exact vx_throwS (own := R_C) (cls := eA) (text := "the task is not declared, or no such thing or length") (names := xn9) (ik := 59) (is := 77) (ic := 63) (sa := sa) hx hb hl0 hown (by decide) (by decide) (hts _ k_316) (hts _ k_33) hsa (fun w hw => hts w (xat_63 w hw)) (xgd_63_59) hXU hXN hS (hl.1.trans hml.symm) d_C_mayUse_42 d_C_mayUse_45 d_C_mayUse_46 d_C_mayUse_48 d_C_mayUse_51 (fun x h => (hnt x h).elim) (by decide) (by decide) (by decide) (by decide) hlocks (fun t _ hz hq => ⟨(), trivial, ⟨Or.inr ⟨by rw [he], rfl⟩, hP.kept (fun k q hk => hq _ (vx_lt hP hk))⟩, hz, fun q h1 _ => hq q h1⟩) hS.2.2 (by decide) (by decide)
    · have he := he.trans (if_neg hc2)
      refine lv_iload_n hx hb d_C_mayUse_25 rfl (lv_at hl 2 rfl) ?_
      refine rdS (As := [.int p2]) (rest := []) (na := 1) (c_C_isThing l p2 ) ⟨hx, hb, hml, hown, hts⟩ k_186 k_187 k_24 k_188 (by decide +kernel) (by decide) (by decide) rfl hl.1 rfl (Nat.le_of_ble_eq_true rfl) d_C_mayUse_26 ?_
      refine lv_if_eq (tgt := 42) hx hb d_C_mayUse_29 (by decide) (fun hc3 => ?_) (fun hc3 => ?_)
      · have he := he.trans (if_pos hc3)
        obtain ⟨sa, hsa⟩ := hXR (77, "the task is not declared, or no such thing or length") (List.mem_of_getElem? (i := 3) rfl)
        exact vx_throwS (own := R_C) (cls := eA) (text := "the task is not declared, or no such thing or length") (names := xn9) (ik := 59) (is := 77) (ic := 63) (sa := sa) hx hb hl0 hown (by decide) (by decide) (hts _ k_316) (hts _ k_33) hsa (fun w hw => hts w (xat_63 w hw)) (xgd_63_59) hXU hXN hS (hl.1.trans hml.symm) d_C_mayUse_42 d_C_mayUse_45 d_C_mayUse_46 d_C_mayUse_48 d_C_mayUse_51 (fun x h => (hnt x h).elim) (by decide) (by decide) (by decide) (by decide) hlocks (fun t _ hz hq => ⟨(), trivial, ⟨Or.inr ⟨by rw [he], rfl⟩, hP.kept (fun k q hk => hq _ (vx_lt hP hk))⟩, hz, fun q h1 _ => hq q h1⟩) hS.2.2 (by decide) (by decide)
      · have he := he.trans (if_neg hc3)
        refine lv_iload_n hx hb d_C_mayUse_32 rfl (lv_at hl 3 rfl) ?_
        refine lv_iconst (v := 1) hx hb d_C_mayUse_33 (by decide) ?_
        refine lv_bipush (v := 50) hx hb d_C_mayUse_34 (by decide) ?_
        refine rdS (As := [.int p3, .int 1, .int 50]) (rest := []) (na := 3) (c_C_isIn l p3 1 50 ) ⟨hx, hb, hml, hown, hts⟩ k_163 k_164 k_24 k_165 (by decide +kernel) (by decide) (by decide) rfl hl.1 rfl (Nat.le_of_ble_eq_true rfl) d_C_mayUse_36 ?_
        refine lv_if_ne (tgt := 52) hx hb d_C_mayUse_39 (by decide) (fun hc4 => ?_) (fun hc4 => ?_)
        · have he := he.trans (if_neg hc4)
          refine lv_aload_n hx hb d_C_mayUse_52 rfl (lv_at hl 0 rfl) ?_
          refine va_get (D := D) (ci := 0) (v := .ref (ad 1)) (C := R_C) (T := F_C) (N := 7) hx hb hts in_C hown hK hP 0 cw_0 rfl 0 (by decide) (hts _ k_129) (fun _ h9 => h9) rfl d_C_mayUse_53 ?_
          refine lv_iload_n hx hb d_C_mayUse_56 rfl (lv_at hl 1 rfl) ?_
          have hi5 : vp_in p1 8 := (by first | with_reducible assumption | exact vi_isIn7 (by with_reducible assumption) | exact vi_isThing (by with_reducible assumption) | exact vi_decl (by with_reducible assumption) | exact vi_ready (by with_reducible assumption) | exact vi_run (by with_reducible assumption) (by with_reducible assumption) | exact vi_run (by with_reducible assumption) (vi_runner _) | exact vi_mTask (by with_reducible assumption) | exact vi_mThing (by with_reducible assumption) | exact vi_mdecl (by with_reducible assumption) | exact vi_mready (by with_reducible assumption))
          refine va_aldq hx hb hK hP 1 1 cw_1 rfl hi5 d_C_mayUse_57 ?_
          have hj6 : p1.toNatClampNeg < 8 := vi_lt hi5
          refine W.eq (g2 := F0 m 58 ls [.ref (ad (5 + 2 * p1.toNatClampNeg))]) rfl ?_
          refine va_getN (D := D) (ci := 1) (v := .ref (ad (5 + 2 * p1.toNatClampNeg + 1))) (C := R_T) (T := F_T) (N := 10) hx hb hts in_T hown hK hP (5 + 2 * p1.toNatClampNeg) (cw_k hj6) rfl 3 (by decide) (va_Nw.use rfl (hN _ nk_C_79)) (fun _ h9 => h9) rfl d_C_mayUse_58 ?_
          refine lv_iload_n hx hb d_C_mayUse_61 rfl (lv_at hl 2 rfl) ?_
          refine lv_iload_n hx hb d_C_mayUse_62 rfl (lv_at hl 3 rfl) ?_
          have hi7 : vp_in p2 6 := (by first | with_reducible assumption | exact vi_isIn7 (by with_reducible assumption) | exact vi_isThing (by with_reducible assumption) | exact vi_decl (by with_reducible assumption) | exact vi_ready (by with_reducible assumption) | exact vi_run (by with_reducible assumption) (by with_reducible assumption) | exact vi_run (by with_reducible assumption) (vi_runner _) | exact vi_mTask (by with_reducible assumption) | exact vi_mThing (by with_reducible assumption) | exact vi_mdecl (by with_reducible assumption) | exact vi_mready (by with_reducible assumption))
          refine va_iast hx hb hK hP (cw_D hI) hS (5 + 2 * p1.toNatClampNeg + 1) 0 (cw_l hj6) rfl hi7 d_C_mayUse_63 (fun H locs hP _ hS => ?_)
          rw [cp_l hj6] at hP
          generalize hw9 : wr st (5 + 2 * p1.toNatClampNeg + 1) p2.toNatClampNeg p3 = sw8 at hP he
          refine W.eq (g2 := F0 m 64 ls []) rfl ?_
          exact vx_ret (W.widen (k := 1) (n := 6) (by decide) (by decide) (W.vret hx hb hr (fun t ht _ => ⟨⟨(), rfl, by rw [he], (by rw [he]; show va_P _ _ _ t.heap; rw [ht]; exact hP)⟩, hS.F ht⟩) hS.2.2 d_C_mayUse_64))
        · have he := he.trans (if_pos hc4)
          obtain ⟨sa, hsa⟩ := hXR (77, "the task is not declared, or no such thing or length") (List.mem_of_getElem? (i := 3) rfl)
          exact vx_throwS (own := R_C) (cls := eA) (text := "the task is not declared, or no such thing or length") (names := xn9) (ik := 59) (is := 77) (ic := 63) (sa := sa) hx hb hl0 hown (by decide) (by decide) (hts _ k_316) (hts _ k_33) hsa (fun w hw => hts w (xat_63 w hw)) (xgd_63_59) hXU hXN hS (hl.1.trans hml.symm) d_C_mayUse_42 d_C_mayUse_45 d_C_mayUse_46 d_C_mayUse_48 d_C_mayUse_51 (fun x h => (hnt x h).elim) (by decide) (by decide) (by decide) (by decide) hlocks (fun t _ hz hq => ⟨(), trivial, ⟨Or.inr ⟨by rw [he], rfl⟩, hP.kept (fun k q hk => hq _ (vx_lt hP hk))⟩, hz, fun q h1 _ => hq q h1⟩) hS.2.2 (by decide) (by decide)
  · have he := he.trans (if_neg hc1)
    obtain ⟨sa, hsa⟩ := hXR (73, "sealed") (List.mem_of_getElem? (i := 2) rfl)
    exact vx_throwS (own := R_C) (cls := eS) (text := "sealed") (names := xn9) (ik := 48) (is := 73) (ic := 52) (sa := sa) hx hb hl0 hown (by decide) (by decide) (hts _ k_249) (hts _ k_32) hsa (fun w hw => hts w (xat_52 w hw)) (xgd_52_48) hXU hXN hS (hl.1.trans hml.symm) d_C_mayUse_7 d_C_mayUse_10 d_C_mayUse_11 d_C_mayUse_13 d_C_mayUse_16 (fun x h => (hnt x h).elim) (by decide) (by decide) (by decide) (by decide) hlocks (fun t _ hz hq => ⟨(), trivial, ⟨Or.inl ⟨by rw [he], rfl⟩, hP.kept (fun k q hk => hq _ (vx_lt hP hk))⟩, hz, fun q h1 _ => hq q h1⟩) hS.2.2 (by decide) (by decide)
set_option maxHeartbeats 4000000 in
set_option maxRecDepth 100000 in
theorem c_C_seal (l : Launch) (D : va_G) (cI cT cH : ClassId) (ad : Nat → Nat) (st : St) (hl0 : l.stackTraces = false) (hI : ∀ i j, i < 27 → j < 27 → ad i = ad j → i = j) : vx_Met l y_C_seal w_C_seal { frames := 7, cells := 1, slots := 6, locals := 100 } (va_Pc [.ref (ad 0)] (xW D cI cT cH (cw cI cT cH ad st) (inA ad 27))) (qXI D (f_C_seal st) (fun z => cw cI cT cH ad z) (inA ad 27)) (qX D (f_C_seal st) (cw cI cT cH ad st) (inA ad 27)) 1 6 (inA ad 27) := by
  refine vx_ofW (cc := b_C_seal) (maxL := 2) (ret := (some .int)) (by decide +kernel) rfl ?_
  intro p e s m args below meth c s₁ B hml hnt hv
  obtain ⟨rfl, ⟨hP, hK, hN⟩, hXU, hXN, hXR⟩ := hv
  have hx := B.exec
  have hb := B.bytes
  have hr := B.returns
  have hlocks := B.notSynchronized
  have hts0 := atoms_spec (ws := w_C_seal) B.pre
  have hts : ∀ w ∈ TT, w.before [.ref (ad 0)].toArray s = true := fun w h => hts0 w (List.mem_cons_of_mem _ h)
  have hown : s.vm.findClass R_C = some m.cls := findClass_of_methodNamed B.named
  have hS : va_S (inA ad 27) s.heap s.heap [] := va_S.rf
  have hl := lv_entry ([.ref (ad 0)]) (n := 2) (Nat.le_of_ble_eq_true rfl)
  rw [lg_entry_eq]
  generalize (lg_sl ([.ref (ad 0)]) ++ List.replicate (2 - (lg_sl ([.ref (ad 0)])).length) Slot.unset).toArray = ls at hl ⊢
  have hl : lv_has ls 2 [(0, .ref (ad 0))] := hl
  have L24 : ∀ (n i : Nat) (sl : St) (H : Heap) (locs : List Loc) (ls : Array Slot), i + n = 6 → lv_has ls 2 [(0, .ref (ad 0)), (1, .int (nI i))] → va_P D cls9 (cw cI cT cH ad sl) H → va_S (inA ad 27) s.heap H locs → f_C_seal st = f_C_seal_L24 n i sl → W p l e (headSpec w_C_seal { frames := 7, cells := 1, slots := 6, locals := 100 }).room s m [.ref (ad 0)].toArray below meth c H locs 0 0 (vx_MQ below (qXI D (f_C_seal st) (fun z => cw cI cT cH ad z) (inA ad 27)) (qX D (f_C_seal st) (cw cI cT cH ad st) (inA ad 27)) [.ref (ad 0)].toArray s 1 6 (inA ad 27)) (F0 m 24 ls []) := by
    intro n
    induction n with
    | zero =>
      intro i sl H locs ls hcnt hl hP hS he
      have hz : i = 6 := by omega
      subst hz
      rw [f_C_seal_L24] at he
      refine lv_iload_n hx hb d_C_seal_24 rfl (lv_at hl 1 rfl) ?_
      refine lv_bipush (v := 6) hx hb d_C_seal_25 (by decide) ?_
      refine lv_icmp_ge (tgt := 50) hx hb d_C_seal_27 (by decide) (fun _ => ?_) (fun h9 => absurd (by decide) h9)
      refine lv_aload_n hx hb d_C_seal_50 rfl (lv_at hl 0 rfl) ?_
      refine rdV (As := []) (rest := []) (na := 0) (c_C_countDeclared l D cI cT cH ad sl  ) ⟨hx, hb, hml, hown, hts⟩ k_356 k_358 k_7 k_24 k_359 (by decide +kernel) (by decide) (by decide) hP hK hN (q0 := 0) (ci := 0) cw_0 rfl rfl hl.1 rfl (Nat.le_of_ble_eq_true rfl) d_C_seal_51 ?_
      exact vx_ret (W.widen (k := 1) (n := 6) (by decide) (by decide) (W.iret (v := (f_C_countDeclared sl)) hx hb hr (fun t ht _ => ⟨⟨(f_C_countDeclared sl), (), rfl, ⟨by rw [he], by rw [he]⟩, (by rw [he]; show va_P _ _ _ t.heap; rw [ht]; exact hP)⟩, hS.F ht⟩) hS.2.2 d_C_seal_54))
    | succ n ih =>
      intro i sl H locs ls hcnt hl hP hS he
      have hi8 : i < 6 := by omega
      rw [f_C_seal_L24] at he
      refine lv_iload_n hx hb d_C_seal_24 rfl (lv_at hl 1 rfl) ?_
      refine lv_bipush (v := 6) hx hb d_C_seal_25 (by decide) ?_
      refine lv_icmp_ge (tgt := 50) hx hb d_C_seal_27 (by decide) (fun h9 => absurd h9 (nlt_6 hi8)) (fun _ => ?_)
      refine lv_aload_n hx hb d_C_seal_30 rfl (lv_at hl 0 rfl) ?_
      refine va_get (D := D) (ci := 0) (v := .ref (ad 2)) (C := R_C) (T := F_C) (N := 7) hx hb hts in_C hown hK hP 0 cw_0 rfl 1 (by decide) (hts _ k_130) (fun _ h9 => h9) rfl d_C_seal_31 ?_
      refine lv_iload_n hx hb d_C_seal_34 rfl (lv_at hl 1 rfl) ?_
      have hi1 : vp_in (nI i) 6 := (vp_in_nI (by omega) (by decide))
      refine va_aldq hx hb hK hP 2 2 cw_2 rfl hi1 d_C_seal_35 ?_
      have hj2 : (nI i).toNatClampNeg < 6 := vi_lt hi1
      rw [show (nI i).toNatClampNeg = i from nI_clamp (by omega)]
      rw [show (nI i).toNatClampNeg = i from nI_clamp (by omega)] at hj2
      refine W.eq (g2 := F0 m 36 ls [.ref (ad (21 + i))]) rfl ?_
      refine lv_aload_n hx hb d_C_seal_36 rfl (lv_at hl 0 rfl) ?_
      refine lv_iload_n hx hb d_C_seal_37 rfl (lv_at hl 1 rfl) ?_
      refine rdV (As := [.int (nI i)]) (rest := [.ref (ad (21 + i))]) (na := 1) (c_C_greatestBaseOfUsers l D cI cT cH ad sl (nI i) (vp_in_nI (by omega) (by decide))) ⟨hx, hb, hml, hown, hts⟩ k_348 k_350 k_6 k_24 k_351 (by decide +kernel) (by decide) (by decide) hP hK hN (q0 := 0) (ci := 0) cw_0 rfl rfl hl.1 rfl (Nat.le_of_ble_eq_true rfl) d_C_seal_38 ?_
      refine va_putN (D := D) (ci := 2) (v := .int (f_C_greatestBaseOfUsers sl (nI i))) (ty := .int) (C := R_H) (T := F_H) (N := 4) hx hb hts in_H ft_H ft_H_ok n_H hown hK hP (cw_D hI) hS (21 + i) (cw_h hj2) rfl 0 (by decide) (va_Nw.use rfl (hN _ nk_C_87)) (fun _ h9 => h9) rfl (by decide +kernel) rfl rfl (Nat.le_of_ble_eq_true rfl) d_C_seal_41 (fun H locs hP _ hS => ?_)
      rw [cp_h (k := 0) hj2 (by decide)] at hP
      generalize hw4 : wr sl (21 + i) 0 (f_C_greatestBaseOfUsers sl (nI i)) = sw3 at hP he
      refine W.eq (g2 := F0 m 44 ls []) rfl ?_
      refine lv_iinc (k := 1) (v := (nI (i + 1))) hx hb d_C_seal_44 hl rfl (by first | rfl | (rw [nI_succ]; rfl)) (by decide) rfl (fun ls hl => ?_)
      have hl : lv_has ls 2 [(1, .int (nI (i + 1))), (0, .ref (ad 0))] := hl
      refine lv_goto (tgt := 24) hx hb d_C_seal_47 (by decide) ?_
      exact ih (i + 1) sw3 H locs ls (by omega) (lv_sub hl [1, 0] rfl) hP hS he
  have he := f_C_seal.eq_1 st
  refine lv_aload_n hx hb d_C_seal_0 rfl (lv_at hl 0 rfl) ?_
  refine va_get (D := D) (ci := 0) (v := .int (st 0 3)) (C := R_C) (T := F_C) (N := 7) hx hb hts in_C hown hK hP 0 cw_0 rfl 3 (by decide) (hts _ k_132) (fun _ h9 => h9) rfl d_C_seal_1 ?_
  refine lv_if_eq (tgt := 17) hx hb d_C_seal_4 (by decide) (fun hc5 => ?_) (fun hc5 => ?_)
  · have he := he.trans (if_pos hc5)
    refine lv_aload_n hx hb d_C_seal_17 rfl (lv_at hl 0 rfl) ?_
    refine lv_iconst (v := 1) hx hb d_C_seal_18 (by decide) ?_
    refine va_put (D := D) (ci := 0) (v := .int 1) (ty := .boolean) (C := R_C) (T := F_C) (N := 7) hx hb hts in_C ft_C ft_C_ok n_C hown hK hP (cw_D hI) hS 0 cw_0 rfl 3 (by decide) (hts _ k_132) (fun _ h9 => h9) rfl (by decide +kernel) rfl rfl (Nat.le_of_ble_eq_true rfl) d_C_seal_19 (fun H locs hP _ hS => ?_)
    rw [cp_0 (k := 3) (by decide)] at hP
    generalize hw7 : wr st 0 3 1 = sw6 at hP he
    refine W.eq (g2 := F0 m 22 ls []) rfl ?_
    rw [f_C_seal_S22] at he
    refine lv_iconst (v := 0) hx hb d_C_seal_22 (by decide) ?_
    refine lv_istore_n hx hb d_C_seal_23 rfl hl (by decide) rfl (fun ls hl => ?_)
    have hl : lv_has ls 2 [(1, .int 0), (0, .ref (ad 0))] := hl
    exact L24 6 0 sw6 H locs ls (by first | decide | omega) (lv_sub hl [1, 0] rfl) hP hS he
  · have he := he.trans (if_neg hc5)
    obtain ⟨sa, hsa⟩ := hXR (73, "sealed") (List.mem_of_getElem? (i := 2) rfl)
    exact vx_throwS (own := R_C) (cls := eS) (text := "sealed") (names := xn9) (ik := 48) (is := 73) (ic := 52) (sa := sa) hx hb hl0 hown (by decide) (by decide) (hts _ k_249) (hts _ k_32) hsa (fun w hw => hts w (xat_52 w hw)) (xgd_52_48) hXU hXN hS (hl.1.trans hml.symm) d_C_seal_7 d_C_seal_10 d_C_seal_11 d_C_seal_13 d_C_seal_16 (fun x h => (hnt x h).elim) (by decide) (by decide) (by decide) (by decide) hlocks (fun t _ hz hq => ⟨(), trivial, ⟨Or.inl ⟨by rw [he], rfl⟩, hP.kept (fun k q hk => hq _ (vx_lt hP hk))⟩, hz, fun q h1 _ => hq q h1⟩) hS.2.2 (by decide) (by decide)
set_option maxHeartbeats 4000000 in
set_option maxRecDepth 100000 in
theorem c_C_release (l : Launch) (D : va_G) (cI cT cH : ClassId) (ad : Nat → Nat) (st : St) (p1 : Int32) (hl0 : l.stackTraces = false) (hI : ∀ i j, i < 27 → j < 27 → ad i = ad j → i = j) : vx_Met l y_C_release w_C_release { frames := 7, cells := 1, slots := 6, locals := 100 } (va_Pc [.ref (ad 0), .int p1] (xW D cI cT cH (cw cI cT cH ad st) (inA ad 27))) (qXI D (f_C_release st p1) (fun z => cw cI cT cH ad z) (inA ad 27)) (qX D (f_C_release st p1) (cw cI cT cH ad st) (inA ad 27)) 1 6 (inA ad 27) := by
  refine vx_ofW (cc := b_C_release) (maxL := 2) (ret := (some .int)) (by decide +kernel) rfl ?_
  intro p e s m args below meth c s₁ B hml hnt hv
  obtain ⟨rfl, ⟨hP, hK, hN⟩, hXU, hXN, hXR⟩ := hv
  have hx := B.exec
  have hb := B.bytes
  have hr := B.returns
  have hlocks := B.notSynchronized
  have hts0 := atoms_spec (ws := w_C_release) B.pre
  have hts : ∀ w ∈ TT, w.before [.ref (ad 0), .int p1].toArray s = true := fun w h => hts0 w (List.mem_cons_of_mem _ h)
  have hown : s.vm.findClass R_C = some m.cls := findClass_of_methodNamed B.named
  have hS : va_S (inA ad 27) s.heap s.heap [] := va_S.rf
  have hl := lv_entry ([.ref (ad 0), .int p1]) (n := 2) (Nat.le_of_ble_eq_true rfl)
  rw [lg_entry_eq]
  generalize (lg_sl ([.ref (ad 0), .int p1]) ++ List.replicate (2 - (lg_sl ([.ref (ad 0), .int p1])).length) Slot.unset).toArray = ls at hl ⊢
  have hl : lv_has ls 2 [(0, .ref (ad 0)), (1, .int p1)] := hl
  have he := f_C_release.eq_1 st p1
  refine lv_aload_n hx hb d_C_release_0 rfl (lv_at hl 0 rfl) ?_
  refine va_get (D := D) (ci := 0) (v := .int (st 0 3)) (C := R_C) (T := F_C) (N := 7) hx hb hts in_C hown hK hP 0 cw_0 rfl 3 (by decide) (hts _ k_132) (fun _ h9 => h9) rfl d_C_release_1 ?_
  refine lv_if_eq (tgt := 15) hx hb d_C_release_4 (by decide) (fun hc1 => ?_) (fun hc1 => ?_)
  · have he := he.trans (if_pos hc1)
    obtain ⟨sa, hsa⟩ := hXR (97, "not sealed, or the task is ready") (List.mem_of_getElem? (i := 4) rfl)
    exact vx_throwS (own := R_C) (cls := eS) (text := "not sealed, or the task is ready") (names := xn9) (ik := 48) (is := 97) (ic := 52) (sa := sa) hx hb hl0 hown (by decide) (by decide) (hts _ k_249) (hts _ k_32) hsa (fun w hw => hts w (xat_52 w hw)) (xgd_52_48) hXU hXN hS (hl.1.trans hml.symm) d_C_release_15 d_C_release_18 d_C_release_19 d_C_release_21 d_C_release_24 (fun x h => (hnt x h).elim) (by decide) (by decide) (by decide) (by decide) hlocks (fun t _ hz hq => ⟨(), trivial, ⟨Or.inl ⟨by rw [he], rfl⟩, hP.kept (fun k q hk => hq _ (vx_lt hP hk))⟩, hz, fun q h1 _ => hq q h1⟩) hS.2.2 (by decide) (by decide)
  · have he := he.trans (if_neg hc1)
    refine lv_aload_n hx hb d_C_release_7 rfl (lv_at hl 0 rfl) ?_
    refine lv_iload_n hx hb d_C_release_8 rfl (lv_at hl 1 rfl) ?_
    refine rdV (As := [.int p1]) (rest := []) (na := 1) (c_C_isReady l D cI cT cH ad st p1 ) ⟨hx, hb, hml, hown, hts⟩ k_174 k_176 k_1 k_24 k_177 (by decide +kernel) (by decide) (by decide) hP hK hN (q0 := 0) (ci := 0) cw_0 rfl rfl hl.1 rfl (Nat.le_of_ble_eq_true rfl) d_C_release_9 ?_
    refine lv_if_eq (tgt := 25) hx hb d_C_release_12 (by decide) (fun hc2 => ?_) (fun hc2 => ?_)
    · have he := he.trans (if_pos hc2)
      refine lv_aload_n hx hb d_C_release_25 rfl (lv_at hl 0 rfl) ?_
      refine lv_iload_n hx hb d_C_release_26 rfl (lv_at hl 1 rfl) ?_
      refine rdV (As := [.int p1]) (rest := []) (na := 1) (c_C_isDeclared l D cI cT cH ad st p1 ) ⟨hx, hb, hml, hown, hts⟩ k_159 k_161 k_0 k_24 k_162 (by decide +kernel) (by decide) (by decide) hP hK hN (q0 := 0) (ci := 0) cw_0 rfl rfl hl.1 rfl (Nat.le_of_ble_eq_true rfl) d_C_release_27 ?_
      refine lv_if_ne (tgt := 43) hx hb d_C_release_30 (by decide) (fun hc3 => ?_) (fun hc3 => ?_)
      · have he := he.trans (if_neg hc3)
        refine lv_aload_n hx hb d_C_release_43 rfl (lv_at hl 0 rfl) ?_
        refine lv_dup hx hb d_C_release_44 rfl ?_
        refine va_get (D := D) (ci := 0) (v := .int (st 0 5)) (C := R_C) (T := F_C) (N := 7) hx hb hts in_C hown hK hP 0 cw_0 rfl 5 (by decide) (hts _ k_134) (fun _ h9 => h9) rfl d_C_release_45 ?_
        refine lv_iconst (v := 1) hx hb d_C_release_48 (by decide) ?_
        refine lv_iadd hx hb d_C_release_49 ?_
        refine va_put (D := D) (ci := 0) (v := .int ((st 0 5) + 1)) (ty := .int) (C := R_C) (T := F_C) (N := 7) hx hb hts in_C ft_C ft_C_ok n_C hown hK hP (cw_D hI) hS 0 cw_0 rfl 5 (by decide) (hts _ k_134) (fun _ h9 => h9) rfl (by decide +kernel) rfl rfl (Nat.le_of_ble_eq_true rfl) d_C_release_50 (fun H locs hP _ hS => ?_)
        rw [cp_0 (k := 5) (by decide)] at hP
        generalize hw5 : wr st 0 5 ((st 0 5) + 1) = sw4 at hP he
        refine W.eq (g2 := F0 m 53 ls []) rfl ?_
        rw [f_C_release_S53] at he
        refine lv_aload_n hx hb d_C_release_53 rfl (lv_at hl 0 rfl) ?_
        refine va_get (D := D) (ci := 0) (v := .ref (ad 1)) (C := R_C) (T := F_C) (N := 7) hx hb hts in_C hown hK hP 0 cw_0 rfl 0 (by decide) (hts _ k_129) (fun _ h9 => h9) rfl d_C_release_54 ?_
        refine lv_iload_n hx hb d_C_release_57 rfl (lv_at hl 1 rfl) ?_
        have hi6 : vp_in p1 8 := (by first | with_reducible assumption | exact vi_isIn7 (by with_reducible assumption) | exact vi_isThing (by with_reducible assumption) | exact vi_decl (by with_reducible assumption) | exact vi_ready (by with_reducible assumption) | exact vi_run (by with_reducible assumption) (by with_reducible assumption) | exact vi_run (by with_reducible assumption) (vi_runner _) | exact vi_mTask (by with_reducible assumption) | exact vi_mThing (by with_reducible assumption) | exact vi_mdecl (by with_reducible assumption) | exact vi_mready (by with_reducible assumption))
        refine va_aldq hx hb hK hP 1 1 cw_1 rfl hi6 d_C_release_58 ?_
        have hj7 : p1.toNatClampNeg < 8 := vi_lt hi6
        refine W.eq (g2 := F0 m 59 ls [.ref (ad (5 + 2 * p1.toNatClampNeg))]) rfl ?_
        refine lv_aload_n hx hb d_C_release_59 rfl (lv_at hl 0 rfl) ?_
        refine va_get (D := D) (ci := 0) (v := .int (sw4 0 5)) (C := R_C) (T := F_C) (N := 7) hx hb hts in_C hown hK hP 0 cw_0 rfl 5 (by decide) (hts _ k_134) (fun _ h9 => h9) rfl d_C_release_60 ?_
        refine wcV (As := [.int (sw4 0 5)]) (rest := []) (na := 1) (c_T_makeReady l D cI cT cH ad sw4 p1.toNatClampNeg (sw4 0 5) hI hj7) ⟨hx, hb, hml, hown, hts⟩ k_369 k_370 k_371 k_26 k_372 (by decide +kernel) (by decide) (by decide) hP hK hN (q0 := (5 + 2 * p1.toNatClampNeg)) (ci := 1) (cw_k hj7) rfl hS rfl hl.1 rfl (Nat.le_of_ble_eq_true rfl) d_C_release_63 (fun H locs hP hS => ?_)
        generalize hw9 : f_T_makeReady sw4 p1.toNatClampNeg (sw4 0 5) = sw8 at hP he
        refine W.eq (g2 := F0 m 66 ls []) rfl ?_
        rw [f_C_release_S66] at he
        refine lv_aload_n hx hb d_C_release_66 rfl (lv_at hl 0 rfl) ?_
        refine lv_iconst (v := 1) hx hb d_C_release_67 (by decide) ?_
        refine lv_iload_n hx hb d_C_release_68 rfl (lv_at hl 1 rfl) ?_
        refine lv_bipush (v := 15) hx hb d_C_release_69 (by decide) ?_
        refine wcV (As := [.int 1, .int p1, .int 15]) (rest := []) (na := 3) (c_C_happened l D cI cT cH ad sw8 1 p1 15 hI) ⟨hx, hb, hml, hown, hts⟩ k_373 k_375 k_8 k_24 k_376 (by decide +kernel) (by decide) (by decide) hP hK hN (q0 := 0) (ci := 0) cw_0 rfl hS rfl hl.1 rfl (Nat.le_of_ble_eq_true rfl) d_C_release_71 (fun H locs hP hS => ?_)
        generalize hw11 : f_C_happened sw8 1 p1 15 = sw10 at hP he
        refine W.eq (g2 := F0 m 74 ls []) rfl ?_
        rw [f_C_release_S74] at he
        refine lv_aload_n hx hb d_C_release_74 rfl (lv_at hl 0 rfl) ?_
        refine va_get (D := D) (ci := 0) (v := .int (sw10 0 5)) (C := R_C) (T := F_C) (N := 7) hx hb hts in_C hown hK hP 0 cw_0 rfl 5 (by decide) (hts _ k_134) (fun _ h9 => h9) rfl d_C_release_75 ?_
        exact vx_ret (W.widen (k := 1) (n := 6) (by decide) (by decide) (W.iret (v := (sw10 0 5)) hx hb hr (fun t ht _ => ⟨⟨(sw10 0 5), (), rfl, ⟨by rw [he], by rw [he]⟩, (by rw [he]; show va_P _ _ _ t.heap; rw [ht]; exact hP)⟩, hS.F ht⟩) hS.2.2 d_C_release_78))
      · have he := he.trans (if_pos hc3)
        obtain ⟨sa, hsa⟩ := hXR (99, "the task is not declared") (List.mem_of_getElem? (i := 5) rfl)
        exact vx_throwS (own := R_C) (cls := eA) (text := "the task is not declared") (names := xn9) (ik := 59) (is := 99) (ic := 63) (sa := sa) hx hb hl0 hown (by decide) (by decide) (hts _ k_316) (hts _ k_33) hsa (fun w hw => hts w (xat_63 w hw)) (xgd_63_59) hXU hXN hS (hl.1.trans hml.symm) d_C_release_33 d_C_release_36 d_C_release_37 d_C_release_39 d_C_release_42 (fun x h => (hnt x h).elim) (by decide) (by decide) (by decide) (by decide) hlocks (fun t _ hz hq => ⟨(), trivial, ⟨Or.inr ⟨by rw [he], rfl⟩, hP.kept (fun k q hk => hq _ (vx_lt hP hk))⟩, hz, fun q h1 _ => hq q h1⟩) hS.2.2 (by decide) (by decide)
    · have he := he.trans (if_neg hc2)
      obtain ⟨sa, hsa⟩ := hXR (97, "not sealed, or the task is ready") (List.mem_of_getElem? (i := 4) rfl)
      exact vx_throwS (own := R_C) (cls := eS) (text := "not sealed, or the task is ready") (names := xn9) (ik := 48) (is := 97) (ic := 52) (sa := sa) hx hb hl0 hown (by decide) (by decide) (hts _ k_249) (hts _ k_32) hsa (fun w hw => hts w (xat_52 w hw)) (xgd_52_48) hXU hXN hS (hl.1.trans hml.symm) d_C_release_15 d_C_release_18 d_C_release_19 d_C_release_21 d_C_release_24 (fun x h => (hnt x h).elim) (by decide) (by decide) (by decide) (by decide) hlocks (fun t _ hz hq => ⟨(), trivial, ⟨Or.inl ⟨by rw [he], rfl⟩, hP.kept (fun k q hk => hq _ (vx_lt hP hk))⟩, hz, fun q h1 _ => hq q h1⟩) hS.2.2 (by decide) (by decide)
end
section
set_option maxHeartbeats 4000000 in
set_option maxRecDepth 100000 in
theorem c_C_take (l : Launch) (D : va_G) (cI cT cH : ClassId) (ad : Nat → Nat) (st : St) (p1 : Int32) (hl0 : l.stackTraces = false) (hI : ∀ i j, i < 27 → j < 27 → ad i = ad j → i = j) (hy0 : st 0 6 = (-1) ∨ vp_in (st 0 6) 8) : vx_Met l y_C_take w_C_take { frames := 7, cells := 1, slots := 6, locals := 100 } (va_Pc [.ref (ad 0), .int p1] (xW D cI cT cH (cw cI cT cH ad st) (inA ad 27))) (qXI D (f_C_take st p1) (fun z => cw cI cT cH ad z) (inA ad 27)) (qX D (f_C_take st p1) (cw cI cT cH ad st) (inA ad 27)) 1 6 (inA ad 27) := by
  refine vx_ofW (cc := b_C_take) (maxL := 4) (ret := (some .int)) (by decide +kernel) rfl ?_
  intro p e s m args below meth c s₁ B hml hnt hv
  obtain ⟨rfl, ⟨hP, hK, hN⟩, hXU, hXN, hXR⟩ := hv
  have hx := B.exec
  have hb := B.bytes
  have hr := B.returns
  have hlocks := B.notSynchronized
  have hts0 := atoms_spec (ws := w_C_take) B.pre
  have hts : ∀ w ∈ TT, w.before [.ref (ad 0), .int p1].toArray s = true := fun w h => hts0 w (List.mem_cons_of_mem _ h)
  have hown : s.vm.findClass R_C = some m.cls := findClass_of_methodNamed B.named
  have hS : va_S (inA ad 27) s.heap s.heap [] := va_S.rf
  have hl := lv_entry ([.ref (ad 0), .int p1]) (n := 4) (Nat.le_of_ble_eq_true rfl)
  rw [lg_entry_eq]
  generalize (lg_sl ([.ref (ad 0), .int p1]) ++ List.replicate (4 - (lg_sl ([.ref (ad 0), .int p1])).length) Slot.unset).toArray = ls at hl ⊢
  have hl : lv_has ls 4 [(0, .ref (ad 0)), (1, .int p1)] := hl
  have he := f_C_take.eq_1 st p1
  refine lv_aload_n hx hb d_C_take_0 rfl (lv_at hl 0 rfl) ?_
  refine va_get (D := D) (ci := 0) (v := .int (st 0 3)) (C := R_C) (T := F_C) (N := 7) hx hb hts in_C hown hK hP 0 cw_0 rfl 3 (by decide) (hts _ k_132) (fun _ h9 => h9) rfl d_C_take_1 ?_
  refine lv_if_eq (tgt := 23) hx hb d_C_take_4 (by decide) (fun hc1 => ?_) (fun hc1 => ?_)
  · have he := he.trans (if_pos hc1)
    obtain ⟨sa, hsa⟩ := hXR (112, "not sealed, no task runs, or the thing is held") (List.mem_of_getElem? (i := 6) rfl)
    exact vx_throwS (own := R_C) (cls := eS) (text := "not sealed, no task runs, or the thing is held") (names := xn9) (ik := 48) (is := 112) (ic := 52) (sa := sa) hx hb hl0 hown (by decide) (by decide) (hts _ k_249) (hts _ k_32) hsa (fun w hw => hts w (xat_52 w hw)) (xgd_52_48) hXU hXN hS (hl.1.trans hml.symm) d_C_take_23 d_C_take_26 d_C_take_27 d_C_take_29 d_C_take_32 (fun x h => (hnt x h).elim) (by decide) (by decide) (by decide) (by decide) hlocks (fun t _ hz hq => ⟨(), trivial, ⟨Or.inl ⟨by rw [he], rfl⟩, hP.kept (fun k q hk => hq _ (vx_lt hP hk))⟩, hz, fun q h1 _ => hq q h1⟩) hS.2.2 (by decide) (by decide)
  · have he := he.trans (if_neg hc1)
    refine lv_aload_n hx hb d_C_take_7 rfl (lv_at hl 0 rfl) ?_
    refine va_get (D := D) (ci := 0) (v := .int (st 0 6)) (C := R_C) (T := F_C) (N := 7) hx hb hts in_C hown hK hP 0 cw_0 rfl 6 (by decide) (hts _ k_135) (fun _ h9 => h9) rfl d_C_take_8 ?_
    refine lv_iconst (v := (-1)) hx hb d_C_take_11 (by decide) ?_
    refine lv_icmp_eq (tgt := 23) hx hb d_C_take_12 (by decide) (fun hc2 => ?_) (fun hc2 => ?_)
    · have he := he.trans (if_pos hc2)
      obtain ⟨sa, hsa⟩ := hXR (112, "not sealed, no task runs, or the thing is held") (List.mem_of_getElem? (i := 6) rfl)
      exact vx_throwS (own := R_C) (cls := eS) (text := "not sealed, no task runs, or the thing is held") (names := xn9) (ik := 48) (is := 112) (ic := 52) (sa := sa) hx hb hl0 hown (by decide) (by decide) (hts _ k_249) (hts _ k_32) hsa (fun w hw => hts w (xat_52 w hw)) (xgd_52_48) hXU hXN hS (hl.1.trans hml.symm) d_C_take_23 d_C_take_26 d_C_take_27 d_C_take_29 d_C_take_32 (fun x h => (hnt x h).elim) (by decide) (by decide) (by decide) (by decide) hlocks (fun t _ hz hq => ⟨(), trivial, ⟨Or.inl ⟨by rw [he], rfl⟩, hP.kept (fun k q hk => hq _ (vx_lt hP hk))⟩, hz, fun q h1 _ => hq q h1⟩) hS.2.2 (by decide) (by decide)
    · have he := he.trans (if_neg hc2)
      refine lv_aload_n hx hb d_C_take_15 rfl (lv_at hl 0 rfl) ?_
      refine lv_iload_n hx hb d_C_take_16 rfl (lv_at hl 1 rfl) ?_
      refine rdV (As := [.int p1]) (rest := []) (na := 1) (c_C_isHeld l D cI cT cH ad st p1 ) ⟨hx, hb, hml, hown, hts⟩ k_393 k_395 k_10 k_24 k_396 (by decide +kernel) (by decide) (by decide) hP hK hN (q0 := 0) (ci := 0) cw_0 rfl rfl hl.1 rfl (Nat.le_of_ble_eq_true rfl) d_C_take_17 ?_
      refine lv_if_eq (tgt := 33) hx hb d_C_take_20 (by decide) (fun hc3 => ?_) (fun hc3 => ?_)
      · have he := he.trans (if_pos hc3)
        refine lv_iload_n hx hb d_C_take_33 rfl (lv_at hl 1 rfl) ?_
        refine rdS (As := [.int p1]) (rest := []) (na := 1) (c_C_isThing l p1 ) ⟨hx, hb, hml, hown, hts⟩ k_186 k_187 k_24 k_188 (by decide +kernel) (by decide) (by decide) rfl hl.1 rfl (Nat.le_of_ble_eq_true rfl) d_C_take_34 ?_
        refine lv_if_eq (tgt := 56) hx hb d_C_take_37 (by decide) (fun hc4 => ?_) (fun hc4 => ?_)
        · have he := he.trans (if_pos hc4)
          obtain ⟨sa, hsa⟩ := hXR (117, "no such thing, or the task that runs may not use it") (List.mem_of_getElem? (i := 7) rfl)
          exact vx_throwS (own := R_C) (cls := eA) (text := "no such thing, or the task that runs may not use it") (names := xn9) (ik := 59) (is := 117) (ic := 63) (sa := sa) hx hb hl0 hown (by decide) (by decide) (hts _ k_316) (hts _ k_33) hsa (fun w hw => hts w (xat_63 w hw)) (xgd_63_59) hXU hXN hS (hl.1.trans hml.symm) d_C_take_56 d_C_take_59 d_C_take_60 d_C_take_62 d_C_take_65 (fun x h => (hnt x h).elim) (by decide) (by decide) (by decide) (by decide) hlocks (fun t _ hz hq => ⟨(), trivial, ⟨Or.inr ⟨by rw [he], rfl⟩, hP.kept (fun k q hk => hq _ (vx_lt hP hk))⟩, hz, fun q h1 _ => hq q h1⟩) hS.2.2 (by decide) (by decide)
        · have he := he.trans (if_neg hc4)
          refine lv_aload_n hx hb d_C_take_40 rfl (lv_at hl 0 rfl) ?_
          refine va_get (D := D) (ci := 0) (v := .ref (ad 1)) (C := R_C) (T := F_C) (N := 7) hx hb hts in_C hown hK hP 0 cw_0 rfl 0 (by decide) (hts _ k_129) (fun _ h9 => h9) rfl d_C_take_41 ?_
          refine lv_aload_n hx hb d_C_take_44 rfl (lv_at hl 0 rfl) ?_
          refine va_get (D := D) (ci := 0) (v := .int (st 0 6)) (C := R_C) (T := F_C) (N := 7) hx hb hts in_C hown hK hP 0 cw_0 rfl 6 (by decide) (hts _ k_135) (fun _ h9 => h9) rfl d_C_take_45 ?_
          have hi5 : vp_in (st 0 6) 8 := (by first | with_reducible assumption | exact vi_isIn7 (by with_reducible assumption) | exact vi_isThing (by with_reducible assumption) | exact vi_decl (by with_reducible assumption) | exact vi_ready (by with_reducible assumption) | exact vi_run (by with_reducible assumption) (by with_reducible assumption) | exact vi_run (by with_reducible assumption) (vi_runner _) | exact vi_mTask (by with_reducible assumption) | exact vi_mThing (by with_reducible assumption) | exact vi_mdecl (by with_reducible assumption) | exact vi_mready (by with_reducible assumption))
          refine va_aldq hx hb hK hP 1 1 cw_1 rfl hi5 d_C_take_48 ?_
          have hj6 : (st 0 6).toNatClampNeg < 8 := vi_lt hi5
          refine W.eq (g2 := F0 m 49 ls [.ref (ad (5 + 2 * (st 0 6).toNatClampNeg))]) rfl ?_
          refine lv_iload_n hx hb d_C_take_49 rfl (lv_at hl 1 rfl) ?_
          refine rdV (As := [.int p1]) (rest := []) (na := 1) (c_T_isUserOf l D cI cT cH ad st ((st 0 6).toNatClampNeg) p1 hj6 (by first | with_reducible assumption | exact vi_isIn7 (by with_reducible assumption) | exact vi_isThing (by with_reducible assumption) | exact vi_decl (by with_reducible assumption) | exact vi_ready (by with_reducible assumption) | exact vi_run (by with_reducible assumption) (by with_reducible assumption) | exact vi_run (by with_reducible assumption) (vi_runner _) | exact vi_mTask (by with_reducible assumption) | exact vi_mThing (by with_reducible assumption) | exact vi_mdecl (by with_reducible assumption) | exact vi_mready (by with_reducible assumption))) ⟨hx, hb, hml, hown, hts⟩ k_352 k_353 k_354 k_26 k_355 (by decide +kernel) (by decide) (by decide) hP hK hN (q0 := (5 + 2 * (st 0 6).toNatClampNeg)) (ci := 1) (cw_k hj6) rfl rfl hl.1 rfl (Nat.le_of_ble_eq_true rfl) d_C_take_50 ?_
          refine lv_if_ne (tgt := 66) hx hb d_C_take_53 (by decide) (fun hc7 => ?_) (fun hc7 => ?_)
          · have he := he.trans (if_neg hc7)
            refine lv_aload_n hx hb d_C_take_66 rfl (lv_at hl 0 rfl) ?_
            refine va_get (D := D) (ci := 0) (v := .ref (ad 1)) (C := R_C) (T := F_C) (N := 7) hx hb hts in_C hown hK hP 0 cw_0 rfl 0 (by decide) (hts _ k_129) (fun _ h9 => h9) rfl d_C_take_67 ?_
            refine lv_aload_n hx hb d_C_take_70 rfl (lv_at hl 0 rfl) ?_
            refine va_get (D := D) (ci := 0) (v := .int (st 0 6)) (C := R_C) (T := F_C) (N := 7) hx hb hts in_C hown hK hP 0 cw_0 rfl 6 (by decide) (hts _ k_135) (fun _ h9 => h9) rfl d_C_take_71 ?_
            have hi8 : vp_in (st 0 6) 8 := (by first | with_reducible assumption | exact vi_isIn7 (by with_reducible assumption) | exact vi_isThing (by with_reducible assumption) | exact vi_decl (by with_reducible assumption) | exact vi_ready (by with_reducible assumption) | exact vi_run (by with_reducible assumption) (by with_reducible assumption) | exact vi_run (by with_reducible assumption) (vi_runner _) | exact vi_mTask (by with_reducible assumption) | exact vi_mThing (by with_reducible assumption) | exact vi_mdecl (by with_reducible assumption) | exact vi_mready (by with_reducible assumption))
            refine va_aldq hx hb hK hP 1 1 cw_1 rfl hi8 d_C_take_74 ?_
            have hj9 : (st 0 6).toNatClampNeg < 8 := vi_lt hi8
            refine W.eq (g2 := F0 m 75 ls [.ref (ad (5 + 2 * (st 0 6).toNatClampNeg))]) rfl ?_
            refine lv_astore_n hx hb d_C_take_75 rfl hl (by decide) rfl (fun ls hl => ?_)
            have hl : lv_has ls 4 [(2, .ref (ad (5 + 2 * (st 0 6).toNatClampNeg))), (0, .ref (ad 0)), (1, .int p1)] := hl
            refine lv_aload_n hx hb d_C_take_76 rfl (lv_at hl 1 rfl) ?_
            refine va_get (D := D) (ci := 0) (v := .ref (ad 2)) (C := R_C) (T := F_C) (N := 7) hx hb hts in_C hown hK hP 0 cw_0 rfl 1 (by decide) (hts _ k_130) (fun _ h9 => h9) rfl d_C_take_77 ?_
            refine lv_iload_n hx hb d_C_take_80 rfl (lv_at hl 2 rfl) ?_
            have hi10 : vp_in p1 6 := (by first | with_reducible assumption | exact vi_isIn7 (by with_reducible assumption) | exact vi_isThing (by with_reducible assumption) | exact vi_decl (by with_reducible assumption) | exact vi_ready (by with_reducible assumption) | exact vi_run (by with_reducible assumption) (by with_reducible assumption) | exact vi_run (by with_reducible assumption) (vi_runner _) | exact vi_mTask (by with_reducible assumption) | exact vi_mThing (by with_reducible assumption) | exact vi_mdecl (by with_reducible assumption) | exact vi_mready (by with_reducible assumption))
            refine va_aldq hx hb hK hP 2 2 cw_2 rfl hi10 d_C_take_81 ?_
            have hj11 : p1.toNatClampNeg < 6 := vi_lt hi10
            refine W.eq (g2 := F0 m 82 ls [.ref (ad (21 + p1.toNatClampNeg))]) rfl ?_
            refine lv_astore_n hx hb d_C_take_82 rfl hl (by decide) rfl (fun ls hl => ?_)
            have hl : lv_has ls 4 [(3, .ref (ad (21 + p1.toNatClampNeg))), (2, .ref (ad (5 + 2 * (st 0 6).toNatClampNeg))), (0, .ref (ad 0)), (1, .int p1)] := hl
            refine lv_aload_n hx hb d_C_take_83 rfl (lv_at hl 0 rfl) ?_
            refine lv_aload_n hx hb d_C_take_84 rfl (lv_at hl 2 rfl) ?_
            refine va_get (D := D) (ci := 0) (v := .int (st 0 6)) (C := R_C) (T := F_C) (N := 7) hx hb hts in_C hown hK hP 0 cw_0 rfl 6 (by decide) (hts _ k_135) (fun _ h9 => h9) rfl d_C_take_85 ?_
            refine va_putN (D := D) (ci := 2) (v := .int (st 0 6)) (ty := .int) (C := R_H) (T := F_H) (N := 4) hx hb hts in_H ft_H ft_H_ok n_H hown hK hP (cw_D hI) hS (21 + p1.toNatClampNeg) (cw_h hj11) rfl 1 (by decide) (va_Nw.use rfl (hN _ nk_C_119)) (fun _ h9 => h9) rfl (by decide +kernel) rfl rfl (Nat.le_of_ble_eq_true rfl) d_C_take_88 (fun H locs hP _ hS => ?_)
            rw [cp_h (k := 1) hj11 (by decide)] at hP
            generalize hw13 : wr st (21 + p1.toNatClampNeg) 1 (st 0 6) = sw12 at hP he
            have ehy0_6 : sw12 0 6 = st 0 6 := by rw [← hw13]; exact wr_ne (by omega)
            have hy0 : sw12 0 6 = (-1) ∨ vp_in (sw12 0 6) 8 := by rw [ehy0_6]; exact hy0
            refine W.eq (g2 := F0 m 91 ls []) rfl ?_
            rw [f_C_take_S91] at he
            refine lv_aload_n hx hb d_C_take_91 rfl (lv_at hl 0 rfl) ?_
            refine lv_aload_n hx hb d_C_take_92 rfl (lv_at hl 1 rfl) ?_
            refine va_getN (D := D) (ci := 1) (v := .int (sw12 (5 + 2 * (st 0 6).toNatClampNeg) 7)) (C := R_T) (T := F_T) (N := 10) hx hb hts in_T hown hK hP (5 + 2 * (st 0 6).toNatClampNeg) (cw_k hj9) rfl 7 (by decide) (va_Nw.use rfl (hN _ nk_C_122)) (fun _ h9 => h9) rfl d_C_take_93 ?_
            refine va_putN (D := D) (ci := 2) (v := .int (sw12 (5 + 2 * (st 0 6).toNatClampNeg) 7)) (ty := .int) (C := R_H) (T := F_H) (N := 4) hx hb hts in_H ft_H ft_H_ok n_H hown hK hP (cw_D hI) hS (21 + p1.toNatClampNeg) (cw_h hj11) rfl 2 (by decide) (va_Nw.use rfl (hN _ nk_C_125)) (fun _ h9 => h9) rfl (by decide +kernel) rfl rfl (Nat.le_of_ble_eq_true rfl) d_C_take_96 (fun H locs hP _ hS => ?_)
            rw [cp_h (k := 2) hj11 (by decide)] at hP
            generalize hw15 : wr sw12 (21 + p1.toNatClampNeg) 2 (sw12 (5 + 2 * (st 0 6).toNatClampNeg) 7) = sw14 at hP he
            have ehy0_6 : sw14 0 6 = sw12 0 6 := by rw [← hw15]; exact wr_ne (by omega)
            have hy0 : sw14 0 6 = (-1) ∨ vp_in (sw14 0 6) 8 := by rw [ehy0_6]; exact hy0
            refine W.eq (g2 := F0 m 99 ls []) rfl ?_
            rw [f_C_take_S99] at he
            refine lv_aload_n hx hb d_C_take_99 rfl (lv_at hl 0 rfl) ?_
            refine lv_aload_n hx hb d_C_take_100 rfl (lv_at hl 1 rfl) ?_
            refine va_getN (D := D) (ci := 1) (v := .int (sw14 (5 + 2 * (st 0 6).toNatClampNeg) 5)) (C := R_T) (T := F_T) (N := 10) hx hb hts in_T hown hK hP (5 + 2 * (st 0 6).toNatClampNeg) (cw_k hj9) rfl 5 (by decide) (va_Nw.use rfl (hN _ nk_C_128)) (fun _ h9 => h9) rfl d_C_take_101 ?_
            refine va_putN (D := D) (ci := 2) (v := .int (sw14 (5 + 2 * (st 0 6).toNatClampNeg) 5)) (ty := .int) (C := R_H) (T := F_H) (N := 4) hx hb hts in_H ft_H ft_H_ok n_H hown hK hP (cw_D hI) hS (21 + p1.toNatClampNeg) (cw_h hj11) rfl 3 (by decide) (va_Nw.use rfl (hN _ nk_C_131)) (fun _ h9 => h9) rfl (by decide +kernel) rfl rfl (Nat.le_of_ble_eq_true rfl) d_C_take_104 (fun H locs hP _ hS => ?_)
            rw [cp_h (k := 3) hj11 (by decide)] at hP
            generalize hw17 : wr sw14 (21 + p1.toNatClampNeg) 3 (sw14 (5 + 2 * (st 0 6).toNatClampNeg) 5) = sw16 at hP he
            have ehy0_6 : sw16 0 6 = sw14 0 6 := by rw [← hw17]; exact wr_ne (by omega)
            have hy0 : sw16 0 6 = (-1) ∨ vp_in (sw16 0 6) 8 := by rw [ehy0_6]; exact hy0
            refine W.eq (g2 := F0 m 107 ls []) rfl ?_
            rw [f_C_take_S107] at he
            refine lv_aload_n hx hb d_C_take_107 rfl (lv_at hl 1 rfl) ?_
            refine lv_iload_n hx hb d_C_take_108 rfl (lv_at hl 3 rfl) ?_
            refine va_putN (D := D) (ci := 1) (v := .int p1) (ty := .int) (C := R_T) (T := F_T) (N := 10) hx hb hts in_T ft_T ft_T_ok n_T hown hK hP (cw_D hI) hS (5 + 2 * (st 0 6).toNatClampNeg) (cw_k hj9) rfl 7 (by decide) (va_Nw.use rfl (hN _ nk_C_122)) (fun _ h9 => h9) rfl (by decide +kernel) rfl rfl (Nat.le_of_ble_eq_true rfl) d_C_take_109 (fun H locs hP _ hS => ?_)
            rw [cp_k (k := 7) hj9 (by decide) (by decide)] at hP
            generalize hw19 : wr sw16 (5 + 2 * (st 0 6).toNatClampNeg) 7 p1 = sw18 at hP he
            have ehy0_6 : sw18 0 6 = sw16 0 6 := by rw [← hw19]; exact wr_ne (by omega)
            have hy0 : sw18 0 6 = (-1) ∨ vp_in (sw18 0 6) 8 := by rw [ehy0_6]; exact hy0
            refine W.eq (g2 := F0 m 112 ls []) rfl ?_
            rw [f_C_take_S112] at he
            refine lv_aload_n hx hb d_C_take_112 rfl (lv_at hl 1 rfl) ?_
            refine lv_aload_n hx hb d_C_take_113 rfl (lv_at hl 1 rfl) ?_
            refine va_getN (D := D) (ci := 1) (v := .int (sw18 (5 + 2 * (st 0 6).toNatClampNeg) 5)) (C := R_T) (T := F_T) (N := 10) hx hb hts in_T hown hK hP (5 + 2 * (st 0 6).toNatClampNeg) (cw_k hj9) rfl 5 (by decide) (va_Nw.use rfl (hN _ nk_C_128)) (fun _ h9 => h9) rfl d_C_take_114 ?_
            refine lv_aload_n hx hb d_C_take_117 rfl (lv_at hl 0 rfl) ?_
            refine va_getN (D := D) (ci := 2) (v := .int (sw18 (21 + p1.toNatClampNeg) 0)) (C := R_H) (T := F_H) (N := 4) hx hb hts in_H hown hK hP (21 + p1.toNatClampNeg) (cw_h hj11) rfl 0 (by decide) (va_Nw.use rfl (hN _ nk_C_87)) (fun _ h9 => h9) rfl d_C_take_118 ?_
            refine va_mmax hx hb (hml.trans hl.1.symm) hown (hts _ k_209) (hts _ k_210) (hts _ k_34) (hts _ k_211) (Nat.le_of_ble_eq_true rfl) (Nat.le_of_ble_eq_true rfl) (Nat.le_of_ble_eq_true rfl) (Nat.le_of_ble_eq_true rfl) d_C_take_121 ?_
            refine W.eq (g2 := F0 m 124 ls [.int (imax (sw18 (5 + 2 * (st 0 6).toNatClampNeg) 5) (sw18 (21 + p1.toNatClampNeg) 0)), .ref (ad (5 + 2 * (st 0 6).toNatClampNeg))]) rfl ?_
            refine va_putN (D := D) (ci := 1) (v := .int (imax (sw18 (5 + 2 * (st 0 6).toNatClampNeg) 5) (sw18 (21 + p1.toNatClampNeg) 0))) (ty := .int) (C := R_T) (T := F_T) (N := 10) hx hb hts in_T ft_T ft_T_ok n_T hown hK hP (cw_D hI) hS (5 + 2 * (st 0 6).toNatClampNeg) (cw_k hj9) rfl 5 (by decide) (va_Nw.use rfl (hN _ nk_C_128)) (fun _ h9 => h9) rfl (by decide +kernel) rfl rfl (Nat.le_of_ble_eq_true rfl) d_C_take_124 (fun H locs hP _ hS => ?_)
            rw [cp_k (k := 5) hj9 (by decide) (by decide)] at hP
            generalize hw21 : wr sw18 (5 + 2 * (st 0 6).toNatClampNeg) 5 (imax (sw18 (5 + 2 * (st 0 6).toNatClampNeg) 5) (sw18 (21 + p1.toNatClampNeg) 0)) = sw20 at hP he
            have ehy0_6 : sw20 0 6 = sw18 0 6 := by rw [← hw21]; exact wr_ne (by omega)
            have hy0 : sw20 0 6 = (-1) ∨ vp_in (sw20 0 6) 8 := by rw [ehy0_6]; exact hy0
            refine W.eq (g2 := F0 m 127 ls []) rfl ?_
            rw [f_C_take_S127] at he
            refine lv_aload_n hx hb d_C_take_127 rfl (lv_at hl 2 rfl) ?_
            refine lv_iconst (v := 2) hx hb d_C_take_128 (by decide) ?_
            refine lv_aload_n hx hb d_C_take_129 rfl (lv_at hl 2 rfl) ?_
            refine va_get (D := D) (ci := 0) (v := .int (sw20 0 6)) (C := R_C) (T := F_C) (N := 7) hx hb hts in_C hown hK hP 0 cw_0 rfl 6 (by decide) (hts _ k_135) (fun _ h9 => h9) rfl d_C_take_130 ?_
            refine lv_iload_n hx hb d_C_take_133 rfl (lv_at hl 3 rfl) ?_
            refine wcV (As := [.int 2, .int (sw20 0 6), .int p1]) (rest := []) (na := 3) (c_C_happened l D cI cT cH ad sw20 2 (sw20 0 6) p1 hI) ⟨hx, hb, hml, hown, hts⟩ k_373 k_375 k_8 k_24 k_376 (by decide +kernel) (by decide) (by decide) hP hK hN (q0 := 0) (ci := 0) cw_0 rfl hS rfl hl.1 rfl (Nat.le_of_ble_eq_true rfl) d_C_take_134 (fun H locs hP hS => ?_)
            generalize hw23 : f_C_happened sw20 2 (sw20 0 6) p1 = sw22 at hP he
            refine W.eq (g2 := F0 m 137 ls []) rfl ?_
            rw [f_C_take_S137] at he
            refine lv_aload_n hx hb d_C_take_137 rfl (lv_at hl 1 rfl) ?_
            refine va_getN (D := D) (ci := 1) (v := .int (sw22 (5 + 2 * (st 0 6).toNatClampNeg) 5)) (C := R_T) (T := F_T) (N := 10) hx hb hts in_T hown hK hP (5 + 2 * (st 0 6).toNatClampNeg) (cw_k hj9) rfl 5 (by decide) (va_Nw.use rfl (hN _ nk_C_128)) (fun _ h9 => h9) rfl d_C_take_138 ?_
            exact vx_ret (W.widen (k := 1) (n := 6) (by decide) (by decide) (W.iret (v := (sw22 (5 + 2 * (st 0 6).toNatClampNeg) 5)) hx hb hr (fun t ht _ => ⟨⟨(sw22 (5 + 2 * (st 0 6).toNatClampNeg) 5), (), rfl, ⟨by rw [he], by rw [he]⟩, (by rw [he]; show va_P _ _ _ t.heap; rw [ht]; exact hP)⟩, hS.F ht⟩) hS.2.2 d_C_take_141))
          · have he := he.trans (if_pos hc7)
            obtain ⟨sa, hsa⟩ := hXR (117, "no such thing, or the task that runs may not use it") (List.mem_of_getElem? (i := 7) rfl)
            exact vx_throwS (own := R_C) (cls := eA) (text := "no such thing, or the task that runs may not use it") (names := xn9) (ik := 59) (is := 117) (ic := 63) (sa := sa) hx hb hl0 hown (by decide) (by decide) (hts _ k_316) (hts _ k_33) hsa (fun w hw => hts w (xat_63 w hw)) (xgd_63_59) hXU hXN hS (hl.1.trans hml.symm) d_C_take_56 d_C_take_59 d_C_take_60 d_C_take_62 d_C_take_65 (fun x h => (hnt x h).elim) (by decide) (by decide) (by decide) (by decide) hlocks (fun t _ hz hq => ⟨(), trivial, ⟨Or.inr ⟨by rw [he], rfl⟩, hP.kept (fun k q hk => hq _ (vx_lt hP hk))⟩, hz, fun q h1 _ => hq q h1⟩) hS.2.2 (by decide) (by decide)
      · have he := he.trans (if_neg hc3)
        obtain ⟨sa, hsa⟩ := hXR (112, "not sealed, no task runs, or the thing is held") (List.mem_of_getElem? (i := 6) rfl)
        exact vx_throwS (own := R_C) (cls := eS) (text := "not sealed, no task runs, or the thing is held") (names := xn9) (ik := 48) (is := 112) (ic := 52) (sa := sa) hx hb hl0 hown (by decide) (by decide) (hts _ k_249) (hts _ k_32) hsa (fun w hw => hts w (xat_52 w hw)) (xgd_52_48) hXU hXN hS (hl.1.trans hml.symm) d_C_take_23 d_C_take_26 d_C_take_27 d_C_take_29 d_C_take_32 (fun x h => (hnt x h).elim) (by decide) (by decide) (by decide) (by decide) hlocks (fun t _ hz hq => ⟨(), trivial, ⟨Or.inl ⟨by rw [he], rfl⟩, hP.kept (fun k q hk => hq _ (vx_lt hP hk))⟩, hz, fun q h1 _ => hq q h1⟩) hS.2.2 (by decide) (by decide)
set_option maxHeartbeats 4000000 in
set_option maxRecDepth 100000 in
theorem c_C_give (l : Launch) (D : va_G) (cI cT cH : ClassId) (ad : Nat → Nat) (st : St) (p1 : Int32) (hl0 : l.stackTraces = false) (hI : ∀ i j, i < 27 → j < 27 → ad i = ad j → i = j) (hy0 : st 0 6 = (-1) ∨ vp_in (st 0 6) 8) : vx_Met l y_C_give w_C_give { frames := 7, cells := 1, slots := 6, locals := 100 } (va_Pc [.ref (ad 0), .int p1] (xW D cI cT cH (cw cI cT cH ad st) (inA ad 27))) (qXI D (f_C_give st p1) (fun z => cw cI cT cH ad z) (inA ad 27)) (qX D (f_C_give st p1) (cw cI cT cH ad st) (inA ad 27)) 1 6 (inA ad 27) := by
  refine vx_ofW (cc := b_C_give) (maxL := 4) (ret := (some .int)) (by decide +kernel) rfl ?_
  intro p e s m args below meth c s₁ B hml hnt hv
  obtain ⟨rfl, ⟨hP, hK, hN⟩, hXU, hXN, hXR⟩ := hv
  have hx := B.exec
  have hb := B.bytes
  have hr := B.returns
  have hlocks := B.notSynchronized
  have hts0 := atoms_spec (ws := w_C_give) B.pre
  have hts : ∀ w ∈ TT, w.before [.ref (ad 0), .int p1].toArray s = true := fun w h => hts0 w (List.mem_cons_of_mem _ h)
  have hown : s.vm.findClass R_C = some m.cls := findClass_of_methodNamed B.named
  have hS : va_S (inA ad 27) s.heap s.heap [] := va_S.rf
  have hl := lv_entry ([.ref (ad 0), .int p1]) (n := 4) (Nat.le_of_ble_eq_true rfl)
  rw [lg_entry_eq]
  generalize (lg_sl ([.ref (ad 0), .int p1]) ++ List.replicate (4 - (lg_sl ([.ref (ad 0), .int p1])).length) Slot.unset).toArray = ls at hl ⊢
  have hl : lv_has ls 4 [(0, .ref (ad 0)), (1, .int p1)] := hl
  have he := f_C_give.eq_1 st p1
  refine lv_aload_n hx hb d_C_give_0 rfl (lv_at hl 0 rfl) ?_
  refine va_get (D := D) (ci := 0) (v := .int (st 0 6)) (C := R_C) (T := F_C) (N := 7) hx hb hts in_C hown hK hP 0 cw_0 rfl 6 (by decide) (hts _ k_135) (fun _ h9 => h9) rfl d_C_give_1 ?_
  refine lv_iconst (v := (-1)) hx hb d_C_give_4 (by decide) ?_
  refine lv_icmp_ne (tgt := 18) hx hb d_C_give_5 (by decide) (fun hc1 => ?_) (fun hc1 => ?_)
  · have he := he.trans (if_neg hc1)
    refine lv_iload_n hx hb d_C_give_18 rfl (lv_at hl 1 rfl) ?_
    refine rdS (As := [.int p1]) (rest := []) (na := 1) (c_C_isThing l p1 ) ⟨hx, hb, hml, hown, hts⟩ k_186 k_187 k_24 k_188 (by decide +kernel) (by decide) (by decide) rfl hl.1 rfl (Nat.le_of_ble_eq_true rfl) d_C_give_19 ?_
    refine lv_if_eq (tgt := 41) hx hb d_C_give_22 (by decide) (fun hc2 => ?_) (fun hc2 => ?_)
    · have he := he.trans (if_pos hc2)
      obtain ⟨sa, hsa⟩ := hXR (142, "not the thing that the task that runs took last") (List.mem_of_getElem? (i := 9) rfl)
      exact vx_throwS (own := R_C) (cls := eA) (text := "not the thing that the task that runs took last") (names := xn9) (ik := 59) (is := 142) (ic := 63) (sa := sa) hx hb hl0 hown (by decide) (by decide) (hts _ k_316) (hts _ k_33) hsa (fun w hw => hts w (xat_63 w hw)) (xgd_63_59) hXU hXN hS (hl.1.trans hml.symm) d_C_give_41 d_C_give_44 d_C_give_45 d_C_give_47 d_C_give_50 (fun x h => (hnt x h).elim) (by decide) (by decide) (by decide) (by decide) hlocks (fun t _ hz hq => ⟨(), trivial, ⟨Or.inr ⟨by rw [he], rfl⟩, hP.kept (fun k q hk => hq _ (vx_lt hP hk))⟩, hz, fun q h1 _ => hq q h1⟩) hS.2.2 (by decide) (by decide)
    · have he := he.trans (if_neg hc2)
      refine lv_aload_n hx hb d_C_give_25 rfl (lv_at hl 0 rfl) ?_
      refine va_get (D := D) (ci := 0) (v := .ref (ad 1)) (C := R_C) (T := F_C) (N := 7) hx hb hts in_C hown hK hP 0 cw_0 rfl 0 (by decide) (hts _ k_129) (fun _ h9 => h9) rfl d_C_give_26 ?_
      refine lv_aload_n hx hb d_C_give_29 rfl (lv_at hl 0 rfl) ?_
      refine va_get (D := D) (ci := 0) (v := .int (st 0 6)) (C := R_C) (T := F_C) (N := 7) hx hb hts in_C hown hK hP 0 cw_0 rfl 6 (by decide) (hts _ k_135) (fun _ h9 => h9) rfl d_C_give_30 ?_
      have hi3 : vp_in (st 0 6) 8 := (by first | with_reducible assumption | exact vi_isIn7 (by with_reducible assumption) | exact vi_isThing (by with_reducible assumption) | exact vi_decl (by with_reducible assumption) | exact vi_ready (by with_reducible assumption) | exact vi_run (by with_reducible assumption) (by with_reducible assumption) | exact vi_run (by with_reducible assumption) (vi_runner _) | exact vi_mTask (by with_reducible assumption) | exact vi_mThing (by with_reducible assumption) | exact vi_mdecl (by with_reducible assumption) | exact vi_mready (by with_reducible assumption))
      refine va_aldq hx hb hK hP 1 1 cw_1 rfl hi3 d_C_give_33 ?_
      have hj4 : (st 0 6).toNatClampNeg < 8 := vi_lt hi3
      refine W.eq (g2 := F0 m 34 ls [.ref (ad (5 + 2 * (st 0 6).toNatClampNeg))]) rfl ?_
      refine va_getN (D := D) (ci := 1) (v := .int (st (5 + 2 * (st 0 6).toNatClampNeg) 7)) (C := R_T) (T := F_T) (N := 10) hx hb hts in_T hown hK hP (5 + 2 * (st 0 6).toNatClampNeg) (cw_k hj4) rfl 7 (by decide) (va_Nw.use rfl (hN _ nk_C_122)) (fun _ h9 => h9) rfl d_C_give_34 ?_
      refine lv_iload_n hx hb d_C_give_37 rfl (lv_at hl 1 rfl) ?_
      refine lv_icmp_eq (tgt := 51) hx hb d_C_give_38 (by decide) (fun hc5 => ?_) (fun hc5 => ?_)
      · have he := he.trans (if_pos hc5)
        refine lv_aload_n hx hb d_C_give_51 rfl (lv_at hl 0 rfl) ?_
        refine va_get (D := D) (ci := 0) (v := .ref (ad 1)) (C := R_C) (T := F_C) (N := 7) hx hb hts in_C hown hK hP 0 cw_0 rfl 0 (by decide) (hts _ k_129) (fun _ h9 => h9) rfl d_C_give_52 ?_
        refine lv_aload_n hx hb d_C_give_55 rfl (lv_at hl 0 rfl) ?_
        refine va_get (D := D) (ci := 0) (v := .int (st 0 6)) (C := R_C) (T := F_C) (N := 7) hx hb hts in_C hown hK hP 0 cw_0 rfl 6 (by decide) (hts _ k_135) (fun _ h9 => h9) rfl d_C_give_56 ?_
        have hi6 : vp_in (st 0 6) 8 := (by first | with_reducible assumption | exact vi_isIn7 (by with_reducible assumption) | exact vi_isThing (by with_reducible assumption) | exact vi_decl (by with_reducible assumption) | exact vi_ready (by with_reducible assumption) | exact vi_run (by with_reducible assumption) (by with_reducible assumption) | exact vi_run (by with_reducible assumption) (vi_runner _) | exact vi_mTask (by with_reducible assumption) | exact vi_mThing (by with_reducible assumption) | exact vi_mdecl (by with_reducible assumption) | exact vi_mready (by with_reducible assumption))
        refine va_aldq hx hb hK hP 1 1 cw_1 rfl hi6 d_C_give_59 ?_
        have hj7 : (st 0 6).toNatClampNeg < 8 := vi_lt hi6
        refine W.eq (g2 := F0 m 60 ls [.ref (ad (5 + 2 * (st 0 6).toNatClampNeg))]) rfl ?_
        refine lv_astore_n hx hb d_C_give_60 rfl hl (by decide) rfl (fun ls hl => ?_)
        have hl : lv_has ls 4 [(2, .ref (ad (5 + 2 * (st 0 6).toNatClampNeg))), (0, .ref (ad 0)), (1, .int p1)] := hl
        refine lv_aload_n hx hb d_C_give_61 rfl (lv_at hl 1 rfl) ?_
        refine va_get (D := D) (ci := 0) (v := .ref (ad 2)) (C := R_C) (T := F_C) (N := 7) hx hb hts in_C hown hK hP 0 cw_0 rfl 1 (by decide) (hts _ k_130) (fun _ h9 => h9) rfl d_C_give_62 ?_
        refine lv_iload_n hx hb d_C_give_65 rfl (lv_at hl 2 rfl) ?_
        have hi8 : vp_in p1 6 := (by first | with_reducible assumption | exact vi_isIn7 (by with_reducible assumption) | exact vi_isThing (by with_reducible assumption) | exact vi_decl (by with_reducible assumption) | exact vi_ready (by with_reducible assumption) | exact vi_run (by with_reducible assumption) (by with_reducible assumption) | exact vi_run (by with_reducible assumption) (vi_runner _) | exact vi_mTask (by with_reducible assumption) | exact vi_mThing (by with_reducible assumption) | exact vi_mdecl (by with_reducible assumption) | exact vi_mready (by with_reducible assumption))
        refine va_aldq hx hb hK hP 2 2 cw_2 rfl hi8 d_C_give_66 ?_
        have hj9 : p1.toNatClampNeg < 6 := vi_lt hi8
        refine W.eq (g2 := F0 m 67 ls [.ref (ad (21 + p1.toNatClampNeg))]) rfl ?_
        refine lv_astore_n hx hb d_C_give_67 rfl hl (by decide) rfl (fun ls hl => ?_)
        have hl : lv_has ls 4 [(3, .ref (ad (21 + p1.toNatClampNeg))), (2, .ref (ad (5 + 2 * (st 0 6).toNatClampNeg))), (0, .ref (ad 0)), (1, .int p1)] := hl
        refine lv_aload_n hx hb d_C_give_68 rfl (lv_at hl 1 rfl) ?_
        refine lv_aload_n hx hb d_C_give_69 rfl (lv_at hl 0 rfl) ?_
        refine va_getN (D := D) (ci := 2) (v := .int (st (21 + p1.toNatClampNeg) 2)) (C := R_H) (T := F_H) (N := 4) hx hb hts in_H hown hK hP (21 + p1.toNatClampNeg) (cw_h hj9) rfl 2 (by decide) (va_Nw.use rfl (hN _ nk_C_125)) (fun _ h9 => h9) rfl d_C_give_70 ?_
        refine va_putN (D := D) (ci := 1) (v := .int (st (21 + p1.toNatClampNeg) 2)) (ty := .int) (C := R_T) (T := F_T) (N := 10) hx hb hts in_T ft_T ft_T_ok n_T hown hK hP (cw_D hI) hS (5 + 2 * (st 0 6).toNatClampNeg) (cw_k hj7) rfl 7 (by decide) (va_Nw.use rfl (hN _ nk_C_122)) (fun _ h9 => h9) rfl (by decide +kernel) rfl rfl (Nat.le_of_ble_eq_true rfl) d_C_give_73 (fun H locs hP _ hS => ?_)
        rw [cp_k (k := 7) hj7 (by decide) (by decide)] at hP
        generalize hw11 : wr st (5 + 2 * (st 0 6).toNatClampNeg) 7 (st (21 + p1.toNatClampNeg) 2) = sw10 at hP he
        have ehy0_6 : sw10 0 6 = st 0 6 := by rw [← hw11]; exact wr_ne (by omega)
        have hy0 : sw10 0 6 = (-1) ∨ vp_in (sw10 0 6) 8 := by rw [ehy0_6]; exact hy0
        refine W.eq (g2 := F0 m 76 ls []) rfl ?_
        rw [f_C_give_S76] at he
        refine lv_aload_n hx hb d_C_give_76 rfl (lv_at hl 1 rfl) ?_
        refine lv_aload_n hx hb d_C_give_77 rfl (lv_at hl 0 rfl) ?_
        refine va_getN (D := D) (ci := 2) (v := .int (sw10 (21 + p1.toNatClampNeg) 3)) (C := R_H) (T := F_H) (N := 4) hx hb hts in_H hown hK hP (21 + p1.toNatClampNeg) (cw_h hj9) rfl 3 (by decide) (va_Nw.use rfl (hN _ nk_C_131)) (fun _ h9 => h9) rfl d_C_give_78 ?_
        refine va_putN (D := D) (ci := 1) (v := .int (sw10 (21 + p1.toNatClampNeg) 3)) (ty := .int) (C := R_T) (T := F_T) (N := 10) hx hb hts in_T ft_T ft_T_ok n_T hown hK hP (cw_D hI) hS (5 + 2 * (st 0 6).toNatClampNeg) (cw_k hj7) rfl 5 (by decide) (va_Nw.use rfl (hN _ nk_C_128)) (fun _ h9 => h9) rfl (by decide +kernel) rfl rfl (Nat.le_of_ble_eq_true rfl) d_C_give_81 (fun H locs hP _ hS => ?_)
        rw [cp_k (k := 5) hj7 (by decide) (by decide)] at hP
        generalize hw13 : wr sw10 (5 + 2 * (st 0 6).toNatClampNeg) 5 (sw10 (21 + p1.toNatClampNeg) 3) = sw12 at hP he
        have ehy0_6 : sw12 0 6 = sw10 0 6 := by rw [← hw13]; exact wr_ne (by omega)
        have hy0 : sw12 0 6 = (-1) ∨ vp_in (sw12 0 6) 8 := by rw [ehy0_6]; exact hy0
        refine W.eq (g2 := F0 m 84 ls []) rfl ?_
        rw [f_C_give_S84] at he
        refine lv_aload_n hx hb d_C_give_84 rfl (lv_at hl 0 rfl) ?_
        refine lv_iconst (v := (-1)) hx hb d_C_give_85 (by decide) ?_
        refine va_putN (D := D) (ci := 2) (v := .int (-1)) (ty := .int) (C := R_H) (T := F_H) (N := 4) hx hb hts in_H ft_H ft_H_ok n_H hown hK hP (cw_D hI) hS (21 + p1.toNatClampNeg) (cw_h hj9) rfl 1 (by decide) (va_Nw.use rfl (hN _ nk_C_119)) (fun _ h9 => h9) rfl (by decide +kernel) rfl rfl (Nat.le_of_ble_eq_true rfl) d_C_give_86 (fun H locs hP _ hS => ?_)
        rw [cp_h (k := 1) hj9 (by decide)] at hP
        generalize hw15 : wr sw12 (21 + p1.toNatClampNeg) 1 (-1) = sw14 at hP he
        have ehy0_6 : sw14 0 6 = sw12 0 6 := by rw [← hw15]; exact wr_ne (by omega)
        have hy0 : sw14 0 6 = (-1) ∨ vp_in (sw14 0 6) 8 := by rw [ehy0_6]; exact hy0
        refine W.eq (g2 := F0 m 89 ls []) rfl ?_
        rw [f_C_give_S89] at he
        refine lv_aload_n hx hb d_C_give_89 rfl (lv_at hl 2 rfl) ?_
        refine lv_iconst (v := 3) hx hb d_C_give_90 (by decide) ?_
        refine lv_aload_n hx hb d_C_give_91 rfl (lv_at hl 2 rfl) ?_
        refine va_get (D := D) (ci := 0) (v := .int (sw14 0 6)) (C := R_C) (T := F_C) (N := 7) hx hb hts in_C hown hK hP 0 cw_0 rfl 6 (by decide) (hts _ k_135) (fun _ h9 => h9) rfl d_C_give_92 ?_
        refine lv_iload_n hx hb d_C_give_95 rfl (lv_at hl 3 rfl) ?_
        refine wcV (As := [.int 3, .int (sw14 0 6), .int p1]) (rest := []) (na := 3) (c_C_happened l D cI cT cH ad sw14 3 (sw14 0 6) p1 hI) ⟨hx, hb, hml, hown, hts⟩ k_373 k_375 k_8 k_24 k_376 (by decide +kernel) (by decide) (by decide) hP hK hN (q0 := 0) (ci := 0) cw_0 rfl hS rfl hl.1 rfl (Nat.le_of_ble_eq_true rfl) d_C_give_96 (fun H locs hP hS => ?_)
        generalize hw17 : f_C_happened sw14 3 (sw14 0 6) p1 = sw16 at hP he
        refine W.eq (g2 := F0 m 99 ls []) rfl ?_
        rw [f_C_give_S99] at he
        refine lv_aload_n hx hb d_C_give_99 rfl (lv_at hl 1 rfl) ?_
        refine va_getN (D := D) (ci := 1) (v := .int (sw16 (5 + 2 * (st 0 6).toNatClampNeg) 5)) (C := R_T) (T := F_T) (N := 10) hx hb hts in_T hown hK hP (5 + 2 * (st 0 6).toNatClampNeg) (cw_k hj7) rfl 5 (by decide) (va_Nw.use rfl (hN _ nk_C_128)) (fun _ h9 => h9) rfl d_C_give_100 ?_
        exact vx_ret (W.widen (k := 1) (n := 6) (by decide) (by decide) (W.iret (v := (sw16 (5 + 2 * (st 0 6).toNatClampNeg) 5)) hx hb hr (fun t ht _ => ⟨⟨(sw16 (5 + 2 * (st 0 6).toNatClampNeg) 5), (), rfl, ⟨by rw [he], by rw [he]⟩, (by rw [he]; show va_P _ _ _ t.heap; rw [ht]; exact hP)⟩, hS.F ht⟩) hS.2.2 d_C_give_103))
      · have he := he.trans (if_neg hc5)
        obtain ⟨sa, hsa⟩ := hXR (142, "not the thing that the task that runs took last") (List.mem_of_getElem? (i := 9) rfl)
        exact vx_throwS (own := R_C) (cls := eA) (text := "not the thing that the task that runs took last") (names := xn9) (ik := 59) (is := 142) (ic := 63) (sa := sa) hx hb hl0 hown (by decide) (by decide) (hts _ k_316) (hts _ k_33) hsa (fun w hw => hts w (xat_63 w hw)) (xgd_63_59) hXU hXN hS (hl.1.trans hml.symm) d_C_give_41 d_C_give_44 d_C_give_45 d_C_give_47 d_C_give_50 (fun x h => (hnt x h).elim) (by decide) (by decide) (by decide) (by decide) hlocks (fun t _ hz hq => ⟨(), trivial, ⟨Or.inr ⟨by rw [he], rfl⟩, hP.kept (fun k q hk => hq _ (vx_lt hP hk))⟩, hz, fun q h1 _ => hq q h1⟩) hS.2.2 (by decide) (by decide)
  · have he := he.trans (if_pos hc1)
    obtain ⟨sa, hsa⟩ := hXR (140, "no task runs") (List.mem_of_getElem? (i := 8) rfl)
    exact vx_throwS (own := R_C) (cls := eS) (text := "no task runs") (names := xn9) (ik := 48) (is := 140) (ic := 52) (sa := sa) hx hb hl0 hown (by decide) (by decide) (hts _ k_249) (hts _ k_32) hsa (fun w hw => hts w (xat_52 w hw)) (xgd_52_48) hXU hXN hS (hl.1.trans hml.symm) d_C_give_8 d_C_give_11 d_C_give_12 d_C_give_14 d_C_give_17 (fun x h => (hnt x h).elim) (by decide) (by decide) (by decide) (by decide) hlocks (fun t _ hz hq => ⟨(), trivial, ⟨Or.inl ⟨by rw [he], rfl⟩, hP.kept (fun k q hk => hq _ (vx_lt hP hk))⟩, hz, fun q h1 _ => hq q h1⟩) hS.2.2 (by decide) (by decide)
set_option maxHeartbeats 4000000 in
set_option maxRecDepth 100000 in
theorem c_C_finish (l : Launch) (D : va_G) (cI cT cH : ClassId) (ad : Nat → Nat) (st : St) (hl0 : l.stackTraces = false) (hI : ∀ i j, i < 27 → j < 27 → ad i = ad j → i = j) (hy0 : st 0 6 = (-1) ∨ vp_in (st 0 6) 8) : vx_Met l y_C_finish w_C_finish { frames := 7, cells := 1, slots := 6, locals := 100 } (va_Pc [.ref (ad 0)] (xW D cI cT cH (cw cI cT cH ad st) (inA ad 27))) (qXI D (f_C_finish st) (fun z => cw cI cT cH ad z) (inA ad 27)) (qX D (f_C_finish st) (cw cI cT cH ad st) (inA ad 27)) 1 6 (inA ad 27) := by
  refine vx_ofW (cc := b_C_finish) (maxL := 2) (ret := (some .int)) (by decide +kernel) rfl ?_
  intro p e s m args below meth c s₁ B hml hnt hv
  obtain ⟨rfl, ⟨hP, hK, hN⟩, hXU, hXN, hXR⟩ := hv
  have hx := B.exec
  have hb := B.bytes
  have hr := B.returns
  have hlocks := B.notSynchronized
  have hts0 := atoms_spec (ws := w_C_finish) B.pre
  have hts : ∀ w ∈ TT, w.before [.ref (ad 0)].toArray s = true := fun w h => hts0 w (List.mem_cons_of_mem _ h)
  have hown : s.vm.findClass R_C = some m.cls := findClass_of_methodNamed B.named
  have hS : va_S (inA ad 27) s.heap s.heap [] := va_S.rf
  have hl := lv_entry ([.ref (ad 0)]) (n := 2) (Nat.le_of_ble_eq_true rfl)
  rw [lg_entry_eq]
  generalize (lg_sl ([.ref (ad 0)]) ++ List.replicate (2 - (lg_sl ([.ref (ad 0)])).length) Slot.unset).toArray = ls at hl ⊢
  have hl : lv_has ls 2 [(0, .ref (ad 0))] := hl
  have he := f_C_finish.eq_1 st
  refine lv_aload_n hx hb d_C_finish_0 rfl (lv_at hl 0 rfl) ?_
  refine va_get (D := D) (ci := 0) (v := .int (st 0 6)) (C := R_C) (T := F_C) (N := 7) hx hb hts in_C hown hK hP 0 cw_0 rfl 6 (by decide) (hts _ k_135) (fun _ h9 => h9) rfl d_C_finish_1 ?_
  refine lv_iconst (v := (-1)) hx hb d_C_finish_4 (by decide) ?_
  refine lv_icmp_eq (tgt := 24) hx hb d_C_finish_5 (by decide) (fun hc1 => ?_) (fun hc1 => ?_)
  · have he := he.trans (if_pos hc1)
    obtain ⟨sa, hsa⟩ := hXR (144, "no task runs, or it holds something") (List.mem_of_getElem? (i := 10) rfl)
    exact vx_throwS (own := R_C) (cls := eS) (text := "no task runs, or it holds something") (names := xn9) (ik := 48) (is := 144) (ic := 52) (sa := sa) hx hb hl0 hown (by decide) (by decide) (hts _ k_249) (hts _ k_32) hsa (fun w hw => hts w (xat_52 w hw)) (xgd_52_48) hXU hXN hS (hl.1.trans hml.symm) d_C_finish_24 d_C_finish_27 d_C_finish_28 d_C_finish_30 d_C_finish_33 (fun x h => (hnt x h).elim) (by decide) (by decide) (by decide) (by decide) hlocks (fun t _ hz hq => ⟨(), trivial, ⟨Or.inl ⟨by rw [he], rfl⟩, hP.kept (fun k q hk => hq _ (vx_lt hP hk))⟩, hz, fun q h1 _ => hq q h1⟩) hS.2.2 (by decide) (by decide)
  · have he := he.trans (if_neg hc1)
    refine lv_aload_n hx hb d_C_finish_8 rfl (lv_at hl 0 rfl) ?_
    refine va_get (D := D) (ci := 0) (v := .ref (ad 1)) (C := R_C) (T := F_C) (N := 7) hx hb hts in_C hown hK hP 0 cw_0 rfl 0 (by decide) (hts _ k_129) (fun _ h9 => h9) rfl d_C_finish_9 ?_
    refine lv_aload_n hx hb d_C_finish_12 rfl (lv_at hl 0 rfl) ?_
    refine va_get (D := D) (ci := 0) (v := .int (st 0 6)) (C := R_C) (T := F_C) (N := 7) hx hb hts in_C hown hK hP 0 cw_0 rfl 6 (by decide) (hts _ k_135) (fun _ h9 => h9) rfl d_C_finish_13 ?_
    have hi2 : vp_in (st 0 6) 8 := (by first | with_reducible assumption | exact vi_isIn7 (by with_reducible assumption) | exact vi_isThing (by with_reducible assumption) | exact vi_decl (by with_reducible assumption) | exact vi_ready (by with_reducible assumption) | exact vi_run (by with_reducible assumption) (by with_reducible assumption) | exact vi_run (by with_reducible assumption) (vi_runner _) | exact vi_mTask (by with_reducible assumption) | exact vi_mThing (by with_reducible assumption) | exact vi_mdecl (by with_reducible assumption) | exact vi_mready (by with_reducible assumption))
    refine va_aldq hx hb hK hP 1 1 cw_1 rfl hi2 d_C_finish_16 ?_
    have hj3 : (st 0 6).toNatClampNeg < 8 := vi_lt hi2
    refine W.eq (g2 := F0 m 17 ls [.ref (ad (5 + 2 * (st 0 6).toNatClampNeg))]) rfl ?_
    refine va_getN (D := D) (ci := 1) (v := .int (st (5 + 2 * (st 0 6).toNatClampNeg) 7)) (C := R_T) (T := F_T) (N := 10) hx hb hts in_T hown hK hP (5 + 2 * (st 0 6).toNatClampNeg) (cw_k hj3) rfl 7 (by decide) (va_Nw.use rfl (hN _ nk_C_122)) (fun _ h9 => h9) rfl d_C_finish_17 ?_
    refine lv_iconst (v := (-1)) hx hb d_C_finish_20 (by decide) ?_
    refine lv_icmp_eq (tgt := 34) hx hb d_C_finish_21 (by decide) (fun hc4 => ?_) (fun hc4 => ?_)
    · have he := he.trans (if_pos hc4)
      refine lv_aload_n hx hb d_C_finish_34 rfl (lv_at hl 0 rfl) ?_
      refine va_get (D := D) (ci := 0) (v := .ref (ad 1)) (C := R_C) (T := F_C) (N := 7) hx hb hts in_C hown hK hP 0 cw_0 rfl 0 (by decide) (hts _ k_129) (fun _ h9 => h9) rfl d_C_finish_35 ?_
      refine lv_aload_n hx hb d_C_finish_38 rfl (lv_at hl 0 rfl) ?_
      refine va_get (D := D) (ci := 0) (v := .int (st 0 6)) (C := R_C) (T := F_C) (N := 7) hx hb hts in_C hown hK hP 0 cw_0 rfl 6 (by decide) (hts _ k_135) (fun _ h9 => h9) rfl d_C_finish_39 ?_
      have hi5 : vp_in (st 0 6) 8 := (by first | with_reducible assumption | exact vi_isIn7 (by with_reducible assumption) | exact vi_isThing (by with_reducible assumption) | exact vi_decl (by with_reducible assumption) | exact vi_ready (by with_reducible assumption) | exact vi_run (by with_reducible assumption) (by with_reducible assumption) | exact vi_run (by with_reducible assumption) (vi_runner _) | exact vi_mTask (by with_reducible assumption) | exact vi_mThing (by with_reducible assumption) | exact vi_mdecl (by with_reducible assumption) | exact vi_mready (by with_reducible assumption))
      refine va_aldq hx hb hK hP 1 1 cw_1 rfl hi5 d_C_finish_42 ?_
      have hj6 : (st 0 6).toNatClampNeg < 8 := vi_lt hi5
      refine W.eq (g2 := F0 m 43 ls [.ref (ad (5 + 2 * (st 0 6).toNatClampNeg))]) rfl ?_
      refine lv_astore_n hx hb d_C_finish_43 rfl hl (by decide) rfl (fun ls hl => ?_)
      have hl : lv_has ls 2 [(1, .ref (ad (5 + 2 * (st 0 6).toNatClampNeg))), (0, .ref (ad 0))] := hl
      refine lv_aload_n hx hb d_C_finish_44 rfl (lv_at hl 0 rfl) ?_
      refine lv_iconst (v := 0) hx hb d_C_finish_45 (by decide) ?_
      refine va_putN (D := D) (ci := 1) (v := .int 0) (ty := .boolean) (C := R_T) (T := F_T) (N := 10) hx hb hts in_T ft_T ft_T_ok n_T hown hK hP (cw_D hI) hS (5 + 2 * (st 0 6).toNatClampNeg) (cw_k hj6) rfl 4 (by decide) (va_Nw.use rfl (hN _ nk_C_146)) (fun _ h9 => h9) rfl (by decide +kernel) rfl rfl (Nat.le_of_ble_eq_true rfl) d_C_finish_46 (fun H locs hP _ hS => ?_)
      rw [cp_k (k := 4) hj6 (by decide) (by decide)] at hP
      generalize hw8 : wr st (5 + 2 * (st 0 6).toNatClampNeg) 4 0 = sw7 at hP he
      have ehy0_6 : sw7 0 6 = st 0 6 := by rw [← hw8]; exact wr_ne (by omega)
      have hy0 : sw7 0 6 = (-1) ∨ vp_in (sw7 0 6) 8 := by rw [ehy0_6]; exact hy0
      refine W.eq (g2 := F0 m 49 ls []) rfl ?_
      rw [f_C_finish_S49] at he
      refine lv_aload_n hx hb d_C_finish_49 rfl (lv_at hl 1 rfl) ?_
      refine lv_iconst (v := 4) hx hb d_C_finish_50 (by decide) ?_
      refine lv_aload_n hx hb d_C_finish_51 rfl (lv_at hl 1 rfl) ?_
      refine va_get (D := D) (ci := 0) (v := .int (sw7 0 6)) (C := R_C) (T := F_C) (N := 7) hx hb hts in_C hown hK hP 0 cw_0 rfl 6 (by decide) (hts _ k_135) (fun _ h9 => h9) rfl d_C_finish_52 ?_
      refine lv_bipush (v := 15) hx hb d_C_finish_55 (by decide) ?_
      refine wcV (As := [.int 4, .int (sw7 0 6), .int 15]) (rest := []) (na := 3) (c_C_happened l D cI cT cH ad sw7 4 (sw7 0 6) 15 hI) ⟨hx, hb, hml, hown, hts⟩ k_373 k_375 k_8 k_24 k_376 (by decide +kernel) (by decide) (by decide) hP hK hN (q0 := 0) (ci := 0) cw_0 rfl hS rfl hl.1 rfl (Nat.le_of_ble_eq_true rfl) d_C_finish_57 (fun H locs hP hS => ?_)
      generalize hw10 : f_C_happened sw7 4 (sw7 0 6) 15 = sw9 at hP he
      refine W.eq (g2 := F0 m 60 ls []) rfl ?_
      rw [f_C_finish_S60] at he
      refine lv_aload_n hx hb d_C_finish_60 rfl (lv_at hl 0 rfl) ?_
      refine va_getN (D := D) (ci := 1) (v := .int (sw9 (5 + 2 * (st 0 6).toNatClampNeg) 8)) (C := R_T) (T := F_T) (N := 10) hx hb hts in_T hown hK hP (5 + 2 * (st 0 6).toNatClampNeg) (cw_k hj6) rfl 8 (by decide) (va_Nw.use rfl (hN _ nk_C_149)) (fun _ h9 => h9) rfl d_C_finish_61 ?_
      exact vx_ret (W.widen (k := 1) (n := 6) (by decide) (by decide) (W.iret (v := (sw9 (5 + 2 * (st 0 6).toNatClampNeg) 8)) hx hb hr (fun t ht _ => ⟨⟨(sw9 (5 + 2 * (st 0 6).toNatClampNeg) 8), (), rfl, ⟨by rw [he], by rw [he]⟩, (by rw [he]; show va_P _ _ _ t.heap; rw [ht]; exact hP)⟩, hS.F ht⟩) hS.2.2 d_C_finish_64))
    · have he := he.trans (if_neg hc4)
      obtain ⟨sa, hsa⟩ := hXR (144, "no task runs, or it holds something") (List.mem_of_getElem? (i := 10) rfl)
      exact vx_throwS (own := R_C) (cls := eS) (text := "no task runs, or it holds something") (names := xn9) (ik := 48) (is := 144) (ic := 52) (sa := sa) hx hb hl0 hown (by decide) (by decide) (hts _ k_249) (hts _ k_32) hsa (fun w hw => hts w (xat_52 w hw)) (xgd_52_48) hXU hXN hS (hl.1.trans hml.symm) d_C_finish_24 d_C_finish_27 d_C_finish_28 d_C_finish_30 d_C_finish_33 (fun x h => (hnt x h).elim) (by decide) (by decide) (by decide) (by decide) hlocks (fun t _ hz hq => ⟨(), trivial, ⟨Or.inl ⟨by rw [he], rfl⟩, hP.kept (fun k q hk => hq _ (vx_lt hP hk))⟩, hz, fun q h1 _ => hq q h1⟩) hS.2.2 (by decide) (by decide)
set_option maxHeartbeats 4000000 in
set_option maxRecDepth 100000 in
theorem c_C_pass (l : Launch) (D : va_G) (cI cT cH : ClassId) (ad : Nat → Nat) (st : St) (p1 : Int32) (hl0 : l.stackTraces = false) (hI : ∀ i j, i < 27 → j < 27 → ad i = ad j → i = j) (hy0 : st 0 6 = (-1) ∨ vp_in (st 0 6) 8) : vx_Met l y_C_pass w_C_pass { frames := 7, cells := 1, slots := 6, locals := 100 } (va_Pc [.ref (ad 0), .int p1] (xW D cI cT cH (cw cI cT cH ad st) (inA ad 27))) (qXI D (f_C_pass st p1) (fun z => cw cI cT cH ad z) (inA ad 27)) (qX D (f_C_pass st p1) (cw cI cT cH ad st) (inA ad 27)) 1 6 (inA ad 27) := by
  refine vx_ofW (cc := b_C_pass) (maxL := 2) (ret := (some .int)) (by decide +kernel) rfl ?_
  intro p e s m args below meth c s₁ B hml hnt hv
  obtain ⟨rfl, ⟨hP, hK, hN⟩, hXU, hXN, hXR⟩ := hv
  have hx := B.exec
  have hb := B.bytes
  have hr := B.returns
  have hlocks := B.notSynchronized
  have hts0 := atoms_spec (ws := w_C_pass) B.pre
  have hts : ∀ w ∈ TT, w.before [.ref (ad 0), .int p1].toArray s = true := fun w h => hts0 w (List.mem_cons_of_mem _ h)
  have hown : s.vm.findClass R_C = some m.cls := findClass_of_methodNamed B.named
  have hS : va_S (inA ad 27) s.heap s.heap [] := va_S.rf
  have hl := lv_entry ([.ref (ad 0), .int p1]) (n := 2) (Nat.le_of_ble_eq_true rfl)
  rw [lg_entry_eq]
  generalize (lg_sl ([.ref (ad 0), .int p1]) ++ List.replicate (2 - (lg_sl ([.ref (ad 0), .int p1])).length) Slot.unset).toArray = ls at hl ⊢
  have hl : lv_has ls 2 [(0, .ref (ad 0)), (1, .int p1)] := hl
  have he := f_C_pass.eq_1 st p1
  refine lv_iload_n hx hb d_C_pass_0 rfl (lv_at hl 1 rfl) ?_
  refine lv_iconst (v := 0) hx hb d_C_pass_1 (by decide) ?_
  refine lv_bipush (v := 100) hx hb d_C_pass_2 (by decide) ?_
  refine rdS (As := [.int p1, .int 0, .int 100]) (rest := []) (na := 3) (c_C_isIn l p1 0 100 ) ⟨hx, hb, hml, hown, hts⟩ k_163 k_164 k_24 k_165 (by decide +kernel) (by decide) (by decide) rfl hl.1 rfl (Nat.le_of_ble_eq_true rfl) d_C_pass_4 ?_
  refine lv_if_ne (tgt := 20) hx hb d_C_pass_7 (by decide) (fun hc1 => ?_) (fun hc1 => ?_)
  · have he := he.trans (if_neg hc1)
    refine lv_aload_n hx hb d_C_pass_20 rfl (lv_at hl 0 rfl) ?_
    refine lv_dup hx hb d_C_pass_21 rfl ?_
    refine va_get (D := D) (ci := 0) (v := .int (st 0 4)) (C := R_C) (T := F_C) (N := 7) hx hb hts in_C hown hK hP 0 cw_0 rfl 4 (by decide) (hts _ k_133) (fun _ h9 => h9) rfl d_C_pass_22 ?_
    refine lv_iload_n hx hb d_C_pass_25 rfl (lv_at hl 1 rfl) ?_
    refine lv_iadd hx hb d_C_pass_26 ?_
    refine va_put (D := D) (ci := 0) (v := .int ((st 0 4) + p1)) (ty := .int) (C := R_C) (T := F_C) (N := 7) hx hb hts in_C ft_C ft_C_ok n_C hown hK hP (cw_D hI) hS 0 cw_0 rfl 4 (by decide) (hts _ k_133) (fun _ h9 => h9) rfl (by decide +kernel) rfl rfl (Nat.le_of_ble_eq_true rfl) d_C_pass_27 (fun H locs hP _ hS => ?_)
    rw [cp_0 (k := 4) (by decide)] at hP
    generalize hw3 : wr st 0 4 ((st 0 4) + p1) = sw2 at hP he
    have ehy0_6 : sw2 0 6 = st 0 6 := by rw [← hw3]; exact wr_ne (by omega)
    have hy0 : sw2 0 6 = (-1) ∨ vp_in (sw2 0 6) 8 := by rw [ehy0_6]; exact hy0
    refine W.eq (g2 := F0 m 30 ls []) rfl ?_
    rw [f_C_pass_S30] at he
    refine lv_aload_n hx hb d_C_pass_30 rfl (lv_at hl 0 rfl) ?_
    refine va_get (D := D) (ci := 0) (v := .int (sw2 0 6)) (C := R_C) (T := F_C) (N := 7) hx hb hts in_C hown hK hP 0 cw_0 rfl 6 (by decide) (hts _ k_135) (fun _ h9 => h9) rfl d_C_pass_31 ?_
    refine lv_iconst (v := (-1)) hx hb d_C_pass_34 (by decide) ?_
    refine lv_icmp_eq (tgt := 73) hx hb d_C_pass_35 (by decide) (fun hc4 => ?_) (fun hc4 => ?_)
    · have he := he.trans (if_pos hc4)
      refine lv_aload_n hx hb d_C_pass_73 rfl (lv_at hl 0 rfl) ?_
      refine va_get (D := D) (ci := 0) (v := .int (sw2 0 4)) (C := R_C) (T := F_C) (N := 7) hx hb hts in_C hown hK hP 0 cw_0 rfl 4 (by decide) (hts _ k_133) (fun _ h9 => h9) rfl d_C_pass_74 ?_
      exact vx_ret (W.widen (k := 1) (n := 6) (by decide) (by decide) (W.iret (v := (sw2 0 4)) hx hb hr (fun t ht _ => ⟨⟨(sw2 0 4), (), rfl, ⟨by rw [he], by rw [he]⟩, (by rw [he]; show va_P _ _ _ t.heap; rw [ht]; exact hP)⟩, hS.F ht⟩) hS.2.2 d_C_pass_77))
    · have he := he.trans (if_neg hc4)
      have hf0 : vp_in (sw2 0 6) 8 := vi_run (by assumption) hy0
      refine lv_aload_n hx hb d_C_pass_38 rfl (lv_at hl 0 rfl) ?_
      refine va_get (D := D) (ci := 0) (v := .ref (ad 1)) (C := R_C) (T := F_C) (N := 7) hx hb hts in_C hown hK hP 0 cw_0 rfl 0 (by decide) (hts _ k_129) (fun _ h9 => h9) rfl d_C_pass_39 ?_
      refine lv_aload_n hx hb d_C_pass_42 rfl (lv_at hl 0 rfl) ?_
      refine va_get (D := D) (ci := 0) (v := .int (sw2 0 6)) (C := R_C) (T := F_C) (N := 7) hx hb hts in_C hown hK hP 0 cw_0 rfl 6 (by decide) (hts _ k_135) (fun _ h9 => h9) rfl d_C_pass_43 ?_
      have hi5 : vp_in (sw2 0 6) 8 := (by first | with_reducible assumption | exact vi_isIn7 (by with_reducible assumption) | exact vi_isThing (by with_reducible assumption) | exact vi_decl (by with_reducible assumption) | exact vi_ready (by with_reducible assumption) | exact vi_run (by with_reducible assumption) (by with_reducible assumption) | exact vi_run (by with_reducible assumption) (vi_runner _) | exact vi_mTask (by with_reducible assumption) | exact vi_mThing (by with_reducible assumption) | exact vi_mdecl (by with_reducible assumption) | exact vi_mready (by with_reducible assumption))
      refine va_aldq hx hb hK hP 1 1 cw_1 rfl hi5 d_C_pass_46 ?_
      have hj6 : (sw2 0 6).toNatClampNeg < 8 := vi_lt hi5
      refine W.eq (g2 := F0 m 47 ls [.ref (ad (5 + 2 * (sw2 0 6).toNatClampNeg))]) rfl ?_
      refine lv_dup hx hb d_C_pass_47 rfl ?_
      refine va_getN (D := D) (ci := 1) (v := .int (sw2 (5 + 2 * (sw2 0 6).toNatClampNeg) 8)) (C := R_T) (T := F_T) (N := 10) hx hb hts in_T hown hK hP (5 + 2 * (sw2 0 6).toNatClampNeg) (cw_k hj6) rfl 8 (by decide) (va_Nw.use rfl (hN _ nk_C_149)) (fun _ h9 => h9) rfl d_C_pass_48 ?_
      refine lv_iload_n hx hb d_C_pass_51 rfl (lv_at hl 1 rfl) ?_
      refine lv_iadd hx hb d_C_pass_52 ?_
      refine va_putN (D := D) (ci := 1) (v := .int ((sw2 (5 + 2 * (sw2 0 6).toNatClampNeg) 8) + p1)) (ty := .int) (C := R_T) (T := F_T) (N := 10) hx hb hts in_T ft_T ft_T_ok n_T hown hK hP (cw_D hI) hS (5 + 2 * (sw2 0 6).toNatClampNeg) (cw_k hj6) rfl 8 (by decide) (va_Nw.use rfl (hN _ nk_C_149)) (fun _ h9 => h9) rfl (by decide +kernel) rfl rfl (Nat.le_of_ble_eq_true rfl) d_C_pass_53 (fun H locs hP _ hS => ?_)
      rw [cp_k (k := 8) hj6 (by decide) (by decide)] at hP
      generalize hw8 : wr sw2 (5 + 2 * (sw2 0 6).toNatClampNeg) 8 ((sw2 (5 + 2 * (sw2 0 6).toNatClampNeg) 8) + p1) = sw7 at hP he
      have ehy0_6 : sw7 0 6 = sw2 0 6 := by rw [← hw8]; exact wr_ne (by omega)
      have hy0 : sw7 0 6 = (-1) ∨ vp_in (sw7 0 6) 8 := by rw [ehy0_6]; exact hy0
      have ehf0_6 : sw7 0 6 = sw2 0 6 := by rw [← hw8]; exact wr_ne (by omega)
      have hf0 : vp_in (sw7 0 6) 8 := by rw [ehf0_6]; exact hf0
      refine W.eq (g2 := F0 m 56 ls []) rfl ?_
      rw [f_C_pass_S56] at he
      refine lv_aload_n hx hb d_C_pass_56 rfl (lv_at hl 0 rfl) ?_
      refine lv_aload_n hx hb d_C_pass_57 rfl (lv_at hl 0 rfl) ?_
      refine va_get (D := D) (ci := 0) (v := .ref (ad 1)) (C := R_C) (T := F_C) (N := 7) hx hb hts in_C hown hK hP 0 cw_0 rfl 0 (by decide) (hts _ k_129) (fun _ h9 => h9) rfl d_C_pass_58 ?_
      refine lv_aload_n hx hb d_C_pass_61 rfl (lv_at hl 0 rfl) ?_
      refine va_get (D := D) (ci := 0) (v := .int (sw7 0 6)) (C := R_C) (T := F_C) (N := 7) hx hb hts in_C hown hK hP 0 cw_0 rfl 6 (by decide) (hts _ k_135) (fun _ h9 => h9) rfl d_C_pass_62 ?_
      have hi9 : vp_in (sw7 0 6) 8 := (by first | with_reducible assumption | exact vi_isIn7 (by with_reducible assumption) | exact vi_isThing (by with_reducible assumption) | exact vi_decl (by with_reducible assumption) | exact vi_ready (by with_reducible assumption) | exact vi_run (by with_reducible assumption) (by with_reducible assumption) | exact vi_run (by with_reducible assumption) (vi_runner _) | exact vi_mTask (by with_reducible assumption) | exact vi_mThing (by with_reducible assumption) | exact vi_mdecl (by with_reducible assumption) | exact vi_mready (by with_reducible assumption))
      refine va_aldq hx hb hK hP 1 1 cw_1 rfl hi9 d_C_pass_65 ?_
      have hj10 : (sw7 0 6).toNatClampNeg < 8 := vi_lt hi9
      refine W.eq (g2 := F0 m 66 ls [.ref (ad (5 + 2 * (sw7 0 6).toNatClampNeg)), .ref (ad 0)]) rfl ?_
      refine va_getN (D := D) (ci := 1) (v := .int (sw7 (5 + 2 * (sw7 0 6).toNatClampNeg) 0)) (C := R_T) (T := F_T) (N := 10) hx hb hts in_T hown hK hP (5 + 2 * (sw7 0 6).toNatClampNeg) (cw_k hj10) rfl 0 (by decide) (va_Nw.use rfl (hN _ nk_C_64)) (fun _ h9 => h9) rfl d_C_pass_66 ?_
      refine lv_iload_n hx hb d_C_pass_69 rfl (lv_at hl 1 rfl) ?_
      refine wcV (As := [.int (sw7 (5 + 2 * (sw7 0 6).toNatClampNeg) 0), .int p1]) (rest := []) (na := 2) (c_C_delayMoreUrgentThan l D cI cT cH ad sw7 (sw7 (5 + 2 * (sw7 0 6).toNatClampNeg) 0) p1 hI) ⟨hx, hb, hml, hown, hts⟩ k_424 k_426 k_11 k_24 k_427 (by decide +kernel) (by decide) (by decide) hP hK hN (q0 := 0) (ci := 0) cw_0 rfl hS rfl hl.1 rfl (Nat.le_of_ble_eq_true rfl) d_C_pass_70 (fun H locs hP hS => ?_)
      generalize hw12 : f_C_delayMoreUrgentThan sw7 (sw7 (5 + 2 * (sw7 0 6).toNatClampNeg) 0) p1 = sw11 at hP he
      refine W.eq (g2 := F0 m 73 ls []) rfl ?_
      rw [f_C_pass_S73] at he
      refine lv_aload_n hx hb d_C_pass_73 rfl (lv_at hl 0 rfl) ?_
      refine va_get (D := D) (ci := 0) (v := .int (sw11 0 4)) (C := R_C) (T := F_C) (N := 7) hx hb hts in_C hown hK hP 0 cw_0 rfl 4 (by decide) (hts _ k_133) (fun _ h9 => h9) rfl d_C_pass_74 ?_
      exact vx_ret (W.widen (k := 1) (n := 6) (by decide) (by decide) (W.iret (v := (sw11 0 4)) hx hb hr (fun t ht _ => ⟨⟨(sw11 0 4), (), rfl, ⟨by rw [he], by rw [he]⟩, (by rw [he]; show va_P _ _ _ t.heap; rw [ht]; exact hP)⟩, hS.F ht⟩) hS.2.2 d_C_pass_77))
  · have he := he.trans (if_pos hc1)
    obtain ⟨sa, hsa⟩ := hXR (152, "the clock can not go on by that") (List.mem_of_getElem? (i := 11) rfl)
    exact vx_throwS (own := R_C) (cls := eA) (text := "the clock can not go on by that") (names := xn9) (ik := 59) (is := 152) (ic := 63) (sa := sa) hx hb hl0 hown (by decide) (by decide) (hts _ k_316) (hts _ k_33) hsa (fun w hw => hts w (xat_63 w hw)) (xgd_63_59) hXU hXN hS (hl.1.trans hml.symm) d_C_pass_10 d_C_pass_13 d_C_pass_14 d_C_pass_16 d_C_pass_19 (fun x h => (hnt x h).elim) (by decide) (by decide) (by decide) (by decide) hlocks (fun t _ hz hq => ⟨(), trivial, ⟨Or.inr ⟨by rw [he], rfl⟩, hP.kept (fun k q hk => hq _ (vx_lt hP hk))⟩, hz, fun q h1 _ => hq q h1⟩) hS.2.2 (by decide) (by decide)
end
section
set_option maxHeartbeats 4000000 in
set_option maxRecDepth 100000 in
theorem c_M_thrown (l : Launch) (D : va_G) (cI cT cH : ClassId) (ad : Nat → Nat) (st : St) : Met l y_M_thrown w_M_thrown { frames := 0, cells := 0, slots := 0, locals := 0 } (va_Pc [.ref (ad 0)] (gW D cI cT cH (mw cI ad st))) (QcRead (f_M_thrown st)) 0 0 (fun _ => False) := by
  refine Met.ofW (cc := b_M_thrown) (maxL := 1) (ret := (some .int)) (by decide +kernel) rfl ?_
  intro p e s m args below meth c s₁ B hml hv
  obtain ⟨rfl, hP, hK, hN⟩ := hv
  have hx := B.exec
  have hb := B.bytes
  have hr := B.returns
  have hlocks := B.notSynchronized
  have hts0 := atoms_spec (ws := w_M_thrown) B.pre
  have hts : ∀ w ∈ TT, w.before [.ref (ad 0)].toArray s = true := fun w h => hts0 w (List.mem_cons_of_mem _ h)
  have hown : s.vm.findClass R_M = some m.cls := findClass_of_methodNamed B.named
  have hl := lv_entry ([.ref (ad 0)]) (n := 1) (Nat.le_of_ble_eq_true rfl)
  rw [lg_entry_eq]
  generalize (lg_sl ([.ref (ad 0)]) ++ List.replicate (1 - (lg_sl ([.ref (ad 0)])).length) Slot.unset).toArray = ls at hl ⊢
  have hl : lv_has ls 1 [(0, .ref (ad 0))] := hl
  have he := f_M_thrown.eq_1 st
  refine lv_aload_n hx hb d_M_thrown_0 rfl (lv_at hl 0 rfl) ?_
  refine va_get (D := D) (ci := 4) (v := .int (st 0 0)) (C := R_M) (T := F_M) (N := 18) hx hb hts in_M hown hK hP 0 mw_0 rfl 0 (by decide) (hts _ k_434) (fun _ h9 => h9) rfl d_M_thrown_1 ?_
  exact W.iret (v := (st 0 0)) hx hb hr (fun t ht _ => ⟨by rw [he], ht⟩) (fun _ h => nomatch h) d_M_thrown_4
set_option maxHeartbeats 4000000 in
set_option maxRecDepth 100000 in
theorem c_M_refuses (l : Launch) (D : va_G) (cI cT cH : ClassId) (ad : Nat → Nat) (st : St) (p1 : Int32) (p2 : Int32) (hI : ∀ i j, i < 13 → j < 13 → ad i = ad j → i = j) : Met l y_M_refuses w_M_refuses { frames := 0, cells := 0, slots := 0, locals := 0 } (va_Pc [.ref (ad 0), .int p1, .int p2] (gW D cI cT cH (mw cI ad st))) (qI D (f_M_refuses st p1 p2).1 (mw cI ad ((f_M_refuses st p1 p2).2)) (inA ad 13)) 0 0 (inA ad 13) := by
  refine Met.ofW (cc := b_M_refuses) (maxL := 3) (ret := (some .boolean)) (by decide +kernel) rfl ?_
  intro p e s m args below meth c s₁ B hml hv
  obtain ⟨rfl, hP, hK, hN⟩ := hv
  have hx := B.exec
  have hb := B.bytes
  have hr := B.returns
  have hlocks := B.notSynchronized
  have hts0 := atoms_spec (ws := w_M_refuses) B.pre
  have hts : ∀ w ∈ TT, w.before [.ref (ad 0), .int p1, .int p2].toArray s = true := fun w h => hts0 w (List.mem_cons_of_mem _ h)
  have hown : s.vm.findClass R_M = some m.cls := findClass_of_methodNamed B.named
  have hS : va_S (inA ad 13) s.heap s.heap [] := va_S.rf
  have hl := lv_entry ([.ref (ad 0), .int p1, .int p2]) (n := 3) (Nat.le_of_ble_eq_true rfl)
  rw [lg_entry_eq]
  generalize (lg_sl ([.ref (ad 0), .int p1, .int p2]) ++ List.replicate (3 - (lg_sl ([.ref (ad 0), .int p1, .int p2])).length) Slot.unset).toArray = ls at hl ⊢
  have hl : lv_has ls 3 [(0, .ref (ad 0)), (1, .int p1), (2, .int p2)] := hl
  have J18 : ∀ (x1 : Int32) (sl : St) (H : Heap) (locs : List Loc) (ls : Array Slot), lv_has ls 3 [(0, .ref (ad 0))] → va_P D cls9 (mw cI ad sl) H → va_S (inA ad 13) s.heap H locs → f_M_refuses st p1 p2 = f_M_refuses_B18 sl x1 → W p l e (headSpec w_M_refuses { frames := 0, cells := 0, slots := 0, locals := 0 }).room s m [.ref (ad 0), .int p1, .int p2].toArray below meth c H locs 0 0 (MQ below (qI D (f_M_refuses st p1 p2).1 (mw cI ad ((f_M_refuses st p1 p2).2)) (inA ad 13)) [.ref (ad 0), .int p1, .int p2].toArray s 0 0 (inA ad 13)) (F0 m 18 ls [.int x1, .ref (ad 0)]) := by
    intro x1 sl H locs ls hl hP hS he
    rw [f_M_refuses_B18] at he
    refine va_put (D := D) (ci := 4) (v := .int x1) (ty := .int) (C := R_M) (T := F_M) (N := 18) hx hb hts in_M ft_M ft_M_ok n_M hown hK hP (mw_D hI) hS 0 mw_0 rfl 0 (by decide) (hts _ k_434) (fun _ h9 => h9) rfl (by decide +kernel) rfl rfl (Nat.le_of_ble_eq_true rfl) d_M_refuses_18 (fun H locs hP _ hS => ?_)
    rw [mp_0 (k := 0) (by decide)] at hP
    generalize hw2 : wr sl 0 0 x1 = sw1 at hP he
    refine W.eq (g2 := F0 m 21 ls []) rfl ?_
    rw [f_M_refuses_S21] at he
    refine lv_aload_n hx hb d_M_refuses_21 rfl (lv_at hl 0 rfl) ?_
    refine va_get (D := D) (ci := 4) (v := .int (sw1 0 0)) (C := R_M) (T := F_M) (N := 18) hx hb hts in_M hown hK hP 0 mw_0 rfl 0 (by decide) (hts _ k_434) (fun _ h9 => h9) rfl d_M_refuses_22 ?_
    refine lv_if_le (tgt := 32) hx hb d_M_refuses_25 (by decide) (fun hc3 => ?_) (fun hc3 => ?_)
    · have he := he.trans (if_pos hc3)
      refine lv_iconst (v := 0) hx hb d_M_refuses_32 (by decide) ?_
      exact W.zret (v := 0) hx hb hr (by decide) (fun t ht _ => ⟨⟨0, (), rfl, by rw [he], (by rw [he]; show va_P _ _ _ t.heap; rw [ht]; exact hP)⟩, hS.F ht⟩) hS.2.2 d_M_refuses_33
    · have he := he.trans (if_neg hc3)
      refine lv_iconst (v := 1) hx hb d_M_refuses_28 (by decide) ?_
      refine lv_goto (tgt := 33) hx hb d_M_refuses_29 (by decide) ?_
      exact W.zret (v := 1) hx hb hr (by decide) (fun t ht _ => ⟨⟨1, (), rfl, by rw [he], (by rw [he]; show va_P _ _ _ t.heap; rw [ht]; exact hP)⟩, hS.F ht⟩) hS.2.2 d_M_refuses_33
  have he := f_M_refuses.eq_1 st p1 p2
  refine lv_aload_n hx hb d_M_refuses_0 rfl (lv_at hl 0 rfl) ?_
  refine lv_iload_n hx hb d_M_refuses_1 rfl (lv_at hl 1 rfl) ?_
  refine lv_if_eq (tgt := 9) hx hb d_M_refuses_2 (by decide) (fun hc4 => ?_) (fun hc4 => ?_)
  · have he := he.trans (if_pos hc4)
    refine lv_iload_n hx hb d_M_refuses_9 rfl (lv_at hl 2 rfl) ?_
    refine lv_if_eq (tgt := 17) hx hb d_M_refuses_10 (by decide) (fun hc5 => ?_) (fun hc5 => ?_)
    · have he := he.trans (if_pos hc5)
      refine lv_iconst (v := 0) hx hb d_M_refuses_17 (by decide) ?_
      exact J18 0 st s.heap [] ls (lv_sub hl [0] rfl) hP hS he
    · have he := he.trans (if_neg hc5)
      refine lv_iconst (v := 2) hx hb d_M_refuses_13 (by decide) ?_
      refine lv_goto (tgt := 18) hx hb d_M_refuses_14 (by decide) ?_
      exact J18 2 st s.heap [] ls (lv_sub hl [0] rfl) hP hS he
  · have he := he.trans (if_neg hc4)
    refine lv_iconst (v := 1) hx hb d_M_refuses_5 (by decide) ?_
    refine lv_goto (tgt := 18) hx hb d_M_refuses_6 (by decide) ?_
    exact J18 1 st s.heap [] ls (lv_sub hl [0] rfl) hP hS he
set_option maxHeartbeats 4000000 in
set_option maxRecDepth 100000 in
theorem c_M_isTask (l : Launch) (p0 : Int32) : Met l y_M_isTask w_M_isTask { frames := 0, cells := 0, slots := 0, locals := 0 } (va_Pc [.int p0] (fun _ => True)) (QcRead (f_M_isTask p0)) 0 0 (fun _ => False) := by
  refine Met.ofW (cc := b_M_isTask) (maxL := 1) (ret := (some .boolean)) (by decide +kernel) rfl ?_
  intro p e s m args below meth c s₁ B hml hv
  obtain ⟨rfl, -⟩ := hv
  have hx := B.exec
  have hb := B.bytes
  have hr := B.returns
  have hlocks := B.notSynchronized
  have hts0 := atoms_spec (ws := w_M_isTask) B.pre
  have hts : ∀ w ∈ TT, w.before [.int p0].toArray s = true := fun w h => hts0 w (List.mem_cons_of_mem _ h)
  have hown : s.vm.findClass R_M = some m.cls := findClass_of_methodNamed B.named
  have hl := lv_entry ([.int p0]) (n := 1) (Nat.le_of_ble_eq_true rfl)
  rw [lg_entry_eq]
  generalize (lg_sl ([.int p0]) ++ List.replicate (1 - (lg_sl ([.int p0])).length) Slot.unset).toArray = ls at hl ⊢
  have hl : lv_has ls 1 [(0, .int p0)] := hl
  have he := f_M_isTask.eq_1 p0
  refine lv_iload_n hx hb d_M_isTask_0 rfl (lv_at hl 0 rfl) ?_
  refine lv_if_lt (tgt := 14) hx hb d_M_isTask_1 (by decide) (fun hc1 => ?_) (fun hc1 => ?_)
  · have he := he.trans (if_pos hc1)
    refine lv_iconst (v := 0) hx hb d_M_isTask_14 (by decide) ?_
    exact W.zret (v := 0) hx hb hr (by decide) (fun t ht _ => ⟨by rw [he], ht⟩) (fun _ h => nomatch h) d_M_isTask_15
  · have he := he.trans (if_neg hc1)
    refine lv_iload_n hx hb d_M_isTask_4 rfl (lv_at hl 0 rfl) ?_
    refine lv_bipush (v := 8) hx hb d_M_isTask_5 (by decide) ?_
    refine lv_icmp_ge (tgt := 14) hx hb d_M_isTask_7 (by decide) (fun hc2 => ?_) (fun hc2 => ?_)
    · have he := he.trans (if_pos hc2)
      refine lv_iconst (v := 0) hx hb d_M_isTask_14 (by decide) ?_
      exact W.zret (v := 0) hx hb hr (by decide) (fun t ht _ => ⟨by rw [he], ht⟩) (fun _ h => nomatch h) d_M_isTask_15
    · have he := he.trans (if_neg hc2)
      refine lv_iconst (v := 1) hx hb d_M_isTask_10 (by decide) ?_
      refine lv_goto (tgt := 15) hx hb d_M_isTask_11 (by decide) ?_
      exact W.zret (v := 1) hx hb hr (by decide) (fun t ht _ => ⟨by rw [he], ht⟩) (fun _ h => nomatch h) d_M_isTask_15
set_option maxHeartbeats 4000000 in
set_option maxRecDepth 100000 in
theorem c_M_isThing (l : Launch) (p0 : Int32) : Met l y_M_isThing w_M_isThing { frames := 0, cells := 0, slots := 0, locals := 0 } (va_Pc [.int p0] (fun _ => True)) (QcRead (f_M_isThing p0)) 0 0 (fun _ => False) := by
  refine Met.ofW (cc := b_M_isThing) (maxL := 1) (ret := (some .boolean)) (by decide +kernel) rfl ?_
  intro p e s m args below meth c s₁ B hml hv
  obtain ⟨rfl, -⟩ := hv
  have hx := B.exec
  have hb := B.bytes
  have hr := B.returns
  have hlocks := B.notSynchronized
  have hts0 := atoms_spec (ws := w_M_isThing) B.pre
  have hts : ∀ w ∈ TT, w.before [.int p0].toArray s = true := fun w h => hts0 w (List.mem_cons_of_mem _ h)
  have hown : s.vm.findClass R_M = some m.cls := findClass_of_methodNamed B.named
  have hl := lv_entry ([.int p0]) (n := 1) (Nat.le_of_ble_eq_true rfl)
  rw [lg_entry_eq]
  generalize (lg_sl ([.int p0]) ++ List.replicate (1 - (lg_sl ([.int p0])).length) Slot.unset).toArray = ls at hl ⊢
  have hl : lv_has ls 1 [(0, .int p0)] := hl
  have he := f_M_isThing.eq_1 p0
  refine lv_iload_n hx hb d_M_isThing_0 rfl (lv_at hl 0 rfl) ?_
  refine lv_if_lt (tgt := 14) hx hb d_M_isThing_1 (by decide) (fun hc1 => ?_) (fun hc1 => ?_)
  · have he := he.trans (if_pos hc1)
    refine lv_iconst (v := 0) hx hb d_M_isThing_14 (by decide) ?_
    exact W.zret (v := 0) hx hb hr (by decide) (fun t ht _ => ⟨by rw [he], ht⟩) (fun _ h => nomatch h) d_M_isThing_15
  · have he := he.trans (if_neg hc1)
    refine lv_iload_n hx hb d_M_isThing_4 rfl (lv_at hl 0 rfl) ?_
    refine lv_bipush (v := 6) hx hb d_M_isThing_5 (by decide) ?_
    refine lv_icmp_ge (tgt := 14) hx hb d_M_isThing_7 (by decide) (fun hc2 => ?_) (fun hc2 => ?_)
    · have he := he.trans (if_pos hc2)
      refine lv_iconst (v := 0) hx hb d_M_isThing_14 (by decide) ?_
      exact W.zret (v := 0) hx hb hr (by decide) (fun t ht _ => ⟨by rw [he], ht⟩) (fun _ h => nomatch h) d_M_isThing_15
    · have he := he.trans (if_neg hc2)
      refine lv_iconst (v := 1) hx hb d_M_isThing_10 (by decide) ?_
      refine lv_goto (tgt := 15) hx hb d_M_isThing_11 (by decide) ?_
      exact W.zret (v := 1) hx hb hr (by decide) (fun t ht _ => ⟨by rw [he], ht⟩) (fun _ h => nomatch h) d_M_isThing_15
set_option maxHeartbeats 4000000 in
set_option maxRecDepth 100000 in
theorem c_M_isDeclared (l : Launch) (D : va_G) (cI cT cH : ClassId) (ad : Nat → Nat) (st : St) (p1 : Int32) : Met l y_M_isDeclared w_M_isDeclared { frames := 1, cells := 0, slots := 0, locals := 20 } (va_Pc [.ref (ad 0), .int p1] (gW D cI cT cH (mw cI ad st))) (QcRead (f_M_isDeclared st p1)) 0 0 (fun _ => False) := by
  refine Met.ofW (cc := b_M_isDeclared) (maxL := 2) (ret := (some .boolean)) (by decide +kernel) rfl ?_
  intro p e s m args below meth c s₁ B hml hv
  obtain ⟨rfl, hP, hK, hN⟩ := hv
  have hx := B.exec
  have hb := B.bytes
  have hr := B.returns
  have hlocks := B.notSynchronized
  have hts0 := atoms_spec (ws := w_M_isDeclared) B.pre
  have hts : ∀ w ∈ TT, w.before [.ref (ad 0), .int p1].toArray s = true := fun w h => hts0 w (List.mem_cons_of_mem _ h)
  have hown : s.vm.findClass R_M = some m.cls := findClass_of_methodNamed B.named
  have hl := lv_entry ([.ref (ad 0), .int p1]) (n := 2) (Nat.le_of_ble_eq_true rfl)
  rw [lg_entry_eq]
  generalize (lg_sl ([.ref (ad 0), .int p1]) ++ List.replicate (2 - (lg_sl ([.ref (ad 0), .int p1])).length) Slot.unset).toArray = ls at hl ⊢
  have hl : lv_has ls 2 [(0, .ref (ad 0)), (1, .int p1)] := hl
  have he := f_M_isDeclared.eq_1 st p1
  refine lv_iload_n hx hb d_M_isDeclared_0 rfl (lv_at hl 1 rfl) ?_
  refine rdS (As := [.int p1]) (rest := []) (na := 1) (c_M_isTask l p1 ) ⟨hx, hb, hml, hown, hts⟩ k_497 k_498 k_28 k_499 (by decide +kernel) (by decide) (by decide) rfl hl.1 rfl (Nat.le_of_ble_eq_true rfl) d_M_isDeclared_1 ?_
  refine lv_if_eq (tgt := 20) hx hb d_M_isDeclared_4 (by decide) (fun hc1 => ?_) (fun hc1 => ?_)
  · have he := he.trans (if_pos hc1)
    refine lv_iconst (v := 0) hx hb d_M_isDeclared_20 (by decide) ?_
    exact W.zret (v := 0) hx hb hr (by decide) (fun t ht _ => ⟨by rw [he], ht⟩) (fun _ h => nomatch h) d_M_isDeclared_21
  · have he := he.trans (if_neg hc1)
    refine lv_aload_n hx hb d_M_isDeclared_7 rfl (lv_at hl 0 rfl) ?_
    refine va_get (D := D) (ci := 4) (v := .ref (ad 1)) (C := R_M) (T := F_M) (N := 18) hx hb hts in_M hown hK hP 0 mw_0 rfl 4 (by decide) (hts _ k_438) (fun _ h9 => h9) rfl d_M_isDeclared_8 ?_
    refine lv_iload_n hx hb d_M_isDeclared_11 rfl (lv_at hl 1 rfl) ?_
    have hi2 : vp_in p1 8 := (by first | with_reducible assumption | exact vi_isIn7 (by with_reducible assumption) | exact vi_isThing (by with_reducible assumption) | exact vi_decl (by with_reducible assumption) | exact vi_ready (by with_reducible assumption) | exact vi_run (by with_reducible assumption) (by with_reducible assumption) | exact vi_run (by with_reducible assumption) (vi_runner _) | exact vi_mTask (by with_reducible assumption) | exact vi_mThing (by with_reducible assumption) | exact vi_mdecl (by with_reducible assumption) | exact vi_mready (by with_reducible assumption))
    refine va_iald hx hb hK hP 1 0 mw_1 rfl hi2 d_M_isDeclared_12 ?_
    refine W.eq (g2 := F0 m 13 ls [.int (st 1 p1.toNatClampNeg)]) rfl ?_
    refine lv_if_le (tgt := 20) hx hb d_M_isDeclared_13 (by decide) (fun hc3 => ?_) (fun hc3 => ?_)
    · have he := he.trans (if_pos hc3)
      refine lv_iconst (v := 0) hx hb d_M_isDeclared_20 (by decide) ?_
      exact W.zret (v := 0) hx hb hr (by decide) (fun t ht _ => ⟨by rw [he], ht⟩) (fun _ h => nomatch h) d_M_isDeclared_21
    · have he := he.trans (if_neg hc3)
      refine lv_iconst (v := 1) hx hb d_M_isDeclared_16 (by decide) ?_
      refine lv_goto (tgt := 21) hx hb d_M_isDeclared_17 (by decide) ?_
      exact W.zret (v := 1) hx hb hr (by decide) (fun t ht _ => ⟨by rw [he], ht⟩) (fun _ h => nomatch h) d_M_isDeclared_21
set_option maxHeartbeats 4000000 in
set_option maxRecDepth 100000 in
theorem c_M_isReady (l : Launch) (D : va_G) (cI cT cH : ClassId) (ad : Nat → Nat) (st : St) (p1 : Int32) : Met l y_M_isReady w_M_isReady { frames := 1, cells := 0, slots := 0, locals := 20 } (va_Pc [.ref (ad 0), .int p1] (gW D cI cT cH (mw cI ad st))) (QcRead (f_M_isReady st p1)) 0 0 (fun _ => False) := by
  refine Met.ofW (cc := b_M_isReady) (maxL := 2) (ret := (some .boolean)) (by decide +kernel) rfl ?_
  intro p e s m args below meth c s₁ B hml hv
  obtain ⟨rfl, hP, hK, hN⟩ := hv
  have hx := B.exec
  have hb := B.bytes
  have hr := B.returns
  have hlocks := B.notSynchronized
  have hts0 := atoms_spec (ws := w_M_isReady) B.pre
  have hts : ∀ w ∈ TT, w.before [.ref (ad 0), .int p1].toArray s = true := fun w h => hts0 w (List.mem_cons_of_mem _ h)
  have hown : s.vm.findClass R_M = some m.cls := findClass_of_methodNamed B.named
  have hl := lv_entry ([.ref (ad 0), .int p1]) (n := 2) (Nat.le_of_ble_eq_true rfl)
  rw [lg_entry_eq]
  generalize (lg_sl ([.ref (ad 0), .int p1]) ++ List.replicate (2 - (lg_sl ([.ref (ad 0), .int p1])).length) Slot.unset).toArray = ls at hl ⊢
  have hl : lv_has ls 2 [(0, .ref (ad 0)), (1, .int p1)] := hl
  have he := f_M_isReady.eq_1 st p1
  refine lv_iload_n hx hb d_M_isReady_0 rfl (lv_at hl 1 rfl) ?_
  refine rdS (As := [.int p1]) (rest := []) (na := 1) (c_M_isTask l p1 ) ⟨hx, hb, hml, hown, hts⟩ k_497 k_498 k_28 k_499 (by decide +kernel) (by decide) (by decide) rfl hl.1 rfl (Nat.le_of_ble_eq_true rfl) d_M_isReady_1 ?_
  refine lv_if_eq (tgt := 20) hx hb d_M_isReady_4 (by decide) (fun hc1 => ?_) (fun hc1 => ?_)
  · have he := he.trans (if_pos hc1)
    refine lv_iconst (v := 0) hx hb d_M_isReady_20 (by decide) ?_
    exact W.zret (v := 0) hx hb hr (by decide) (fun t ht _ => ⟨by rw [he], ht⟩) (fun _ h => nomatch h) d_M_isReady_21
  · have he := he.trans (if_neg hc1)
    refine lv_aload_n hx hb d_M_isReady_7 rfl (lv_at hl 0 rfl) ?_
    refine va_get (D := D) (ci := 4) (v := .ref (ad 4)) (C := R_M) (T := F_M) (N := 18) hx hb hts in_M hown hK hP 0 mw_0 rfl 7 (by decide) (hts _ k_441) (fun _ h9 => h9) rfl d_M_isReady_8 ?_
    refine lv_iload_n hx hb d_M_isReady_11 rfl (lv_at hl 1 rfl) ?_
    have hi2 : vp_in p1 8 := (by first | with_reducible assumption | exact vi_isIn7 (by with_reducible assumption) | exact vi_isThing (by with_reducible assumption) | exact vi_decl (by with_reducible assumption) | exact vi_ready (by with_reducible assumption) | exact vi_run (by with_reducible assumption) (by with_reducible assumption) | exact vi_run (by with_reducible assumption) (vi_runner _) | exact vi_mTask (by with_reducible assumption) | exact vi_mThing (by with_reducible assumption) | exact vi_mdecl (by with_reducible assumption) | exact vi_mready (by with_reducible assumption))
    refine va_iald hx hb hK hP 4 0 mw_4 rfl hi2 d_M_isReady_12 ?_
    refine W.eq (g2 := F0 m 13 ls [.int (st 4 p1.toNatClampNeg)]) rfl ?_
    refine lv_if_le (tgt := 20) hx hb d_M_isReady_13 (by decide) (fun hc3 => ?_) (fun hc3 => ?_)
    · have he := he.trans (if_pos hc3)
      refine lv_iconst (v := 0) hx hb d_M_isReady_20 (by decide) ?_
      exact W.zret (v := 0) hx hb hr (by decide) (fun t ht _ => ⟨by rw [he], ht⟩) (fun _ h => nomatch h) d_M_isReady_21
    · have he := he.trans (if_neg hc3)
      refine lv_iconst (v := 1) hx hb d_M_isReady_16 (by decide) ?_
      refine lv_goto (tgt := 21) hx hb d_M_isReady_17 (by decide) ?_
      exact W.zret (v := 1) hx hb hr (by decide) (fun t ht _ => ⟨by rw [he], ht⟩) (fun _ h => nomatch h) d_M_isReady_21
set_option maxHeartbeats 4000000 in
set_option maxRecDepth 100000 in
theorem c_M_isFirst (l : Launch) (D : va_G) (cI cT cH : ClassId) (ad : Nat → Nat) (st : St) (p1 : Int32) (p2 : Int32) (hy0 : vp_in p1 8) (hy1 : vp_in p2 8) : Met l y_M_isFirst w_M_isFirst { frames := 0, cells := 0, slots := 0, locals := 0 } (va_Pc [.ref (ad 0), .int p1, .int p2] (gW D cI cT cH (mw cI ad st))) (QcRead (f_M_isFirst st p1 p2)) 0 0 (fun _ => False) := by
  refine Met.ofW (cc := b_M_isFirst) (maxL := 3) (ret := (some .boolean)) (by decide +kernel) rfl ?_
  intro p e s m args below meth c s₁ B hml hv
  obtain ⟨rfl, hP, hK, hN⟩ := hv
  have hx := B.exec
  have hb := B.bytes
  have hr := B.returns
  have hlocks := B.notSynchronized
  have hts0 := atoms_spec (ws := w_M_isFirst) B.pre
  have hts : ∀ w ∈ TT, w.before [.ref (ad 0), .int p1, .int p2].toArray s = true := fun w h => hts0 w (List.mem_cons_of_mem _ h)
  have hown : s.vm.findClass R_M = some m.cls := findClass_of_methodNamed B.named
  have hl := lv_entry ([.ref (ad 0), .int p1, .int p2]) (n := 3) (Nat.le_of_ble_eq_true rfl)
  rw [lg_entry_eq]
  generalize (lg_sl ([.ref (ad 0), .int p1, .int p2]) ++ List.replicate (3 - (lg_sl ([.ref (ad 0), .int p1, .int p2])).length) Slot.unset).toArray = ls at hl ⊢
  have hl : lv_has ls 3 [(0, .ref (ad 0)), (1, .int p1), (2, .int p2)] := hl
  have he := f_M_isFirst.eq_1 st p1 p2
  refine lv_aload_n hx hb d_M_isFirst_0 rfl (lv_at hl 0 rfl) ?_
  refine va_get (D := D) (ci := 4) (v := .ref (ad 5)) (C := R_M) (T := F_M) (N := 18) hx hb hts in_M hown hK hP 0 mw_0 rfl 8 (by decide) (hts _ k_442) (fun _ h9 => h9) rfl d_M_isFirst_1 ?_
  refine lv_iload_n hx hb d_M_isFirst_4 rfl (lv_at hl 1 rfl) ?_
  have hi1 : vp_in p1 8 := (by first | with_reducible assumption | exact vi_isIn7 (by with_reducible assumption) | exact vi_isThing (by with_reducible assumption) | exact vi_decl (by with_reducible assumption) | exact vi_ready (by with_reducible assumption) | exact vi_run (by with_reducible assumption) (by with_reducible assumption) | exact vi_run (by with_reducible assumption) (vi_runner _) | exact vi_mTask (by with_reducible assumption) | exact vi_mThing (by with_reducible assumption) | exact vi_mdecl (by with_reducible assumption) | exact vi_mready (by with_reducible assumption))
  refine va_iald hx hb hK hP 5 0 mw_5 rfl hi1 d_M_isFirst_5 ?_
  refine W.eq (g2 := F0 m 6 ls [.int (st 5 p1.toNatClampNeg)]) rfl ?_
  refine lv_aload_n hx hb d_M_isFirst_6 rfl (lv_at hl 0 rfl) ?_
  refine va_get (D := D) (ci := 4) (v := .ref (ad 5)) (C := R_M) (T := F_M) (N := 18) hx hb hts in_M hown hK hP 0 mw_0 rfl 8 (by decide) (hts _ k_442) (fun _ h9 => h9) rfl d_M_isFirst_7 ?_
  refine lv_iload_n hx hb d_M_isFirst_10 rfl (lv_at hl 2 rfl) ?_
  have hi2 : vp_in p2 8 := (by first | with_reducible assumption | exact vi_isIn7 (by with_reducible assumption) | exact vi_isThing (by with_reducible assumption) | exact vi_decl (by with_reducible assumption) | exact vi_ready (by with_reducible assumption) | exact vi_run (by with_reducible assumption) (by with_reducible assumption) | exact vi_run (by with_reducible assumption) (vi_runner _) | exact vi_mTask (by with_reducible assumption) | exact vi_mThing (by with_reducible assumption) | exact vi_mdecl (by with_reducible assumption) | exact vi_mready (by with_reducible assumption))
  refine va_iald hx hb hK hP 5 0 mw_5 rfl hi2 d_M_isFirst_11 ?_
  refine W.eq (g2 := F0 m 12 ls [.int (st 5 p2.toNatClampNeg), .int (st 5 p1.toNatClampNeg)]) rfl ?_
  refine lv_icmp_gt (tgt := 45) hx hb d_M_isFirst_12 (by decide) (fun hc3 => ?_) (fun hc3 => ?_)
  · have he := he.trans (if_pos hc3)
    refine lv_iconst (v := 1) hx hb d_M_isFirst_45 (by decide) ?_
    refine lv_goto (tgt := 50) hx hb d_M_isFirst_46 (by decide) ?_
    exact W.zret (v := 1) hx hb hr (by decide) (fun t ht _ => ⟨by rw [he], ht⟩) (fun _ h => nomatch h) d_M_isFirst_50
  · have he := he.trans (if_neg hc3)
    refine lv_aload_n hx hb d_M_isFirst_15 rfl (lv_at hl 0 rfl) ?_
    refine va_get (D := D) (ci := 4) (v := .ref (ad 5)) (C := R_M) (T := F_M) (N := 18) hx hb hts in_M hown hK hP 0 mw_0 rfl 8 (by decide) (hts _ k_442) (fun _ h9 => h9) rfl d_M_isFirst_16 ?_
    refine lv_iload_n hx hb d_M_isFirst_19 rfl (lv_at hl 1 rfl) ?_
    have hi4 : vp_in p1 8 := (by first | with_reducible assumption | exact vi_isIn7 (by with_reducible assumption) | exact vi_isThing (by with_reducible assumption) | exact vi_decl (by with_reducible assumption) | exact vi_ready (by with_reducible assumption) | exact vi_run (by with_reducible assumption) (by with_reducible assumption) | exact vi_run (by with_reducible assumption) (vi_runner _) | exact vi_mTask (by with_reducible assumption) | exact vi_mThing (by with_reducible assumption) | exact vi_mdecl (by with_reducible assumption) | exact vi_mready (by with_reducible assumption))
    refine va_iald hx hb hK hP 5 0 mw_5 rfl hi4 d_M_isFirst_20 ?_
    refine W.eq (g2 := F0 m 21 ls [.int (st 5 p1.toNatClampNeg)]) rfl ?_
    refine lv_aload_n hx hb d_M_isFirst_21 rfl (lv_at hl 0 rfl) ?_
    refine va_get (D := D) (ci := 4) (v := .ref (ad 5)) (C := R_M) (T := F_M) (N := 18) hx hb hts in_M hown hK hP 0 mw_0 rfl 8 (by decide) (hts _ k_442) (fun _ h9 => h9) rfl d_M_isFirst_22 ?_
    refine lv_iload_n hx hb d_M_isFirst_25 rfl (lv_at hl 2 rfl) ?_
    have hi5 : vp_in p2 8 := (by first | with_reducible assumption | exact vi_isIn7 (by with_reducible assumption) | exact vi_isThing (by with_reducible assumption) | exact vi_decl (by with_reducible assumption) | exact vi_ready (by with_reducible assumption) | exact vi_run (by with_reducible assumption) (by with_reducible assumption) | exact vi_run (by with_reducible assumption) (vi_runner _) | exact vi_mTask (by with_reducible assumption) | exact vi_mThing (by with_reducible assumption) | exact vi_mdecl (by with_reducible assumption) | exact vi_mready (by with_reducible assumption))
    refine va_iald hx hb hK hP 5 0 mw_5 rfl hi5 d_M_isFirst_26 ?_
    refine W.eq (g2 := F0 m 27 ls [.int (st 5 p2.toNatClampNeg), .int (st 5 p1.toNatClampNeg)]) rfl ?_
    refine lv_icmp_ne (tgt := 49) hx hb d_M_isFirst_27 (by decide) (fun hc6 => ?_) (fun hc6 => ?_)
    · have he := he.trans (if_neg hc6)
      refine lv_iconst (v := 0) hx hb d_M_isFirst_49 (by decide) ?_
      exact W.zret (v := 0) hx hb hr (by decide) (fun t ht _ => ⟨by rw [he], ht⟩) (fun _ h => nomatch h) d_M_isFirst_50
    · have he := he.trans (if_pos hc6)
      refine lv_aload_n hx hb d_M_isFirst_30 rfl (lv_at hl 0 rfl) ?_
      refine va_get (D := D) (ci := 4) (v := .ref (ad 4)) (C := R_M) (T := F_M) (N := 18) hx hb hts in_M hown hK hP 0 mw_0 rfl 7 (by decide) (hts _ k_441) (fun _ h9 => h9) rfl d_M_isFirst_31 ?_
      refine lv_iload_n hx hb d_M_isFirst_34 rfl (lv_at hl 1 rfl) ?_
      have hi7 : vp_in p1 8 := (by first | with_reducible assumption | exact vi_isIn7 (by with_reducible assumption) | exact vi_isThing (by with_reducible assumption) | exact vi_decl (by with_reducible assumption) | exact vi_ready (by with_reducible assumption) | exact vi_run (by with_reducible assumption) (by with_reducible assumption) | exact vi_run (by with_reducible assumption) (vi_runner _) | exact vi_mTask (by with_reducible assumption) | exact vi_mThing (by with_reducible assumption) | exact vi_mdecl (by with_reducible assumption) | exact vi_mready (by with_reducible assumption))
      refine va_iald hx hb hK hP 4 0 mw_4 rfl hi7 d_M_isFirst_35 ?_
      refine W.eq (g2 := F0 m 36 ls [.int (st 4 p1.toNatClampNeg)]) rfl ?_
      refine lv_aload_n hx hb d_M_isFirst_36 rfl (lv_at hl 0 rfl) ?_
      refine va_get (D := D) (ci := 4) (v := .ref (ad 4)) (C := R_M) (T := F_M) (N := 18) hx hb hts in_M hown hK hP 0 mw_0 rfl 7 (by decide) (hts _ k_441) (fun _ h9 => h9) rfl d_M_isFirst_37 ?_
      refine lv_iload_n hx hb d_M_isFirst_40 rfl (lv_at hl 2 rfl) ?_
      have hi8 : vp_in p2 8 := (by first | with_reducible assumption | exact vi_isIn7 (by with_reducible assumption) | exact vi_isThing (by with_reducible assumption) | exact vi_decl (by with_reducible assumption) | exact vi_ready (by with_reducible assumption) | exact vi_run (by with_reducible assumption) (by with_reducible assumption) | exact vi_run (by with_reducible assumption) (vi_runner _) | exact vi_mTask (by with_reducible assumption) | exact vi_mThing (by with_reducible assumption) | exact vi_mdecl (by with_reducible assumption) | exact vi_mready (by with_reducible assumption))
      refine va_iald hx hb hK hP 4 0 mw_4 rfl hi8 d_M_isFirst_41 ?_
      refine W.eq (g2 := F0 m 42 ls [.int (st 4 p2.toNatClampNeg), .int (st 4 p1.toNatClampNeg)]) rfl ?_
      refine lv_icmp_ge (tgt := 49) hx hb d_M_isFirst_42 (by decide) (fun hc9 => ?_) (fun hc9 => ?_)
      · have he := he.trans (if_pos hc9)
        refine lv_iconst (v := 0) hx hb d_M_isFirst_49 (by decide) ?_
        exact W.zret (v := 0) hx hb hr (by decide) (fun t ht _ => ⟨by rw [he], ht⟩) (fun _ h => nomatch h) d_M_isFirst_50
      · have he := he.trans (if_neg hc9)
        refine lv_iconst (v := 1) hx hb d_M_isFirst_45 (by decide) ?_
        refine lv_goto (tgt := 50) hx hb d_M_isFirst_46 (by decide) ?_
        exact W.zret (v := 1) hx hb hr (by decide) (fun t ht _ => ⟨by rw [he], ht⟩) (fun _ h => nomatch h) d_M_isFirst_50
set_option maxHeartbeats 4000000 in
set_option maxRecDepth 100000 in
theorem c_M_runner (l : Launch) (D : va_G) (cI cT cH : ClassId) (ad : Nat → Nat) (st : St) : Met l y_M_runner w_M_runner { frames := 1, cells := 0, slots := 0, locals := 22 } (va_Pc [.ref (ad 0)] (gW D cI cT cH (mw cI ad st))) (QcRead (f_M_runner st)) 0 0 (fun _ => False) := by
  refine Met.ofW (cc := b_M_runner) (maxL := 3) (ret := (some .int)) (by decide +kernel) rfl ?_
  intro p e s m args below meth c s₁ B hml hv
  obtain ⟨rfl, hP, hK, hN⟩ := hv
  have hx := B.exec
  have hb := B.bytes
  have hr := B.returns
  have hlocks := B.notSynchronized
  have hts0 := atoms_spec (ws := w_M_runner) B.pre
  have hts : ∀ w ∈ TT, w.before [.ref (ad 0)].toArray s = true := fun w h => hts0 w (List.mem_cons_of_mem _ h)
  have hown : s.vm.findClass R_M = some m.cls := findClass_of_methodNamed B.named
  have hl := lv_entry ([.ref (ad 0)]) (n := 3) (Nat.le_of_ble_eq_true rfl)
  rw [lg_entry_eq]
  generalize (lg_sl ([.ref (ad 0)]) ++ List.replicate (3 - (lg_sl ([.ref (ad 0)])).length) Slot.unset).toArray = ls at hl ⊢
  have hl : lv_has ls 3 [(0, .ref (ad 0))] := hl
  have L4 : ∀ (n i : Nat) (v1 : Int32) (ls : Array Slot), i + n = 8 → lv_has ls 3 [(0, .ref (ad 0)), (1, .int v1), (2, .int (nI i))] → (v1 = (-1) ∨ vp_in v1 8) → f_M_runner st = f_M_runner_L4 n i st v1 → W p l e (headSpec w_M_runner { frames := 1, cells := 0, slots := 0, locals := 22 }).room s m [.ref (ad 0)].toArray below meth c s.heap [] 0 0 (MQ below (QcRead (f_M_runner st)) [.ref (ad 0)].toArray s 0 0 (fun _ => False)) (F0 m 4 ls []) := by
    intro n
    induction n with
    | zero =>
      intro i v1 ls hcnt hl g0 he
      have hz : i = 8 := by omega
      subst hz
      rw [f_M_runner_L4] at he
      refine lv_iload_n hx hb d_M_runner_4 rfl (lv_at hl 2 rfl) ?_
      refine lv_bipush (v := 8) hx hb d_M_runner_5 (by decide) ?_
      refine lv_icmp_ge (tgt := 45) hx hb d_M_runner_7 (by decide) (fun _ => ?_) (fun h9 => absurd (by decide) h9)
      refine lv_iload_n hx hb d_M_runner_45 rfl (lv_at hl 1 rfl) ?_
      exact W.iret (v := v1) hx hb hr (fun t ht _ => ⟨by rw [he], ht⟩) (fun _ h => nomatch h) d_M_runner_46
    | succ n ih =>
      intro i v1 ls hcnt hl g0 he
      have hi8 : i < 8 := by omega
      rw [f_M_runner_L4] at he
      refine lv_iload_n hx hb d_M_runner_4 rfl (lv_at hl 2 rfl) ?_
      refine lv_bipush (v := 8) hx hb d_M_runner_5 (by decide) ?_
      refine lv_icmp_ge (tgt := 45) hx hb d_M_runner_7 (by decide) (fun h9 => absurd h9 (nlt_8 hi8)) (fun _ => ?_)
      refine lv_aload_n hx hb d_M_runner_10 rfl (lv_at hl 0 rfl) ?_
      refine va_get (D := D) (ci := 4) (v := .ref (ad 4)) (C := R_M) (T := F_M) (N := 18) hx hb hts in_M hown hK hP 0 mw_0 rfl 7 (by decide) (hts _ k_441) (fun _ h9 => h9) rfl d_M_runner_11 ?_
      refine lv_iload_n hx hb d_M_runner_14 rfl (lv_at hl 2 rfl) ?_
      have hi1 : vp_in (nI i) 8 := (vp_in_nI (by omega) (by decide))
      refine va_iald hx hb hK hP 4 0 mw_4 rfl hi1 d_M_runner_15 ?_
      rw [show (nI i).toNatClampNeg = i from nI_clamp (by omega)]
      refine W.eq (g2 := F0 m 16 ls [.int (st 4 i)]) rfl ?_
      refine lv_if_le (tgt := 37) hx hb d_M_runner_16 (by decide) (fun hc2 => ?_) (fun hc2 => ?_)
      · have he := he.trans (if_pos hc2)
        refine lv_iload_n hx hb d_M_runner_37 rfl (lv_at hl 1 rfl) ?_
        refine lv_istore_n hx hb d_M_runner_38 rfl hl (by decide) rfl (fun ls hl => ?_)
        have hl : lv_has ls 3 [(1, .int v1), (0, .ref (ad 0)), (2, .int (nI i))] := hl
        refine lv_iinc (k := 2) (v := (nI (i + 1))) hx hb d_M_runner_39 hl rfl (by first | rfl | (rw [nI_succ]; rfl)) (by decide) rfl (fun ls hl => ?_)
        have hl : lv_has ls 3 [(2, .int (nI (i + 1))), (1, .int v1), (0, .ref (ad 0))] := hl
        refine lv_goto (tgt := 4) hx hb d_M_runner_42 (by decide) ?_
        exact ih (i + 1) v1 ls (by omega) (lv_sub hl [2, 1, 0] rfl) (by first | with_reducible assumption | exact Or.inl rfl | exact (fun h9 => absurd h9 (by decide)) | exact (fun h9 => absurd rfl h9) | exact vi_runner _ | exact Or.inr (vp_in_nI (by omega) (by decide)) | exact Or.inr (by first | with_reducible assumption | exact vi_isIn7 (by with_reducible assumption) | exact vi_isThing (by with_reducible assumption) | exact vi_decl (by with_reducible assumption) | exact vi_ready (by with_reducible assumption) | exact vi_run (by with_reducible assumption) (by with_reducible assumption) | exact vi_run (by with_reducible assumption) (vi_runner _) | exact vi_mTask (by with_reducible assumption) | exact vi_mThing (by with_reducible assumption) | exact vi_mdecl (by with_reducible assumption) | exact vi_mready (by with_reducible assumption)) | exact (fun _ => ⟨(by first | with_reducible assumption | exact vi_isIn7 (by with_reducible assumption) | exact vi_isThing (by with_reducible assumption) | exact vi_decl (by with_reducible assumption) | exact vi_ready (by with_reducible assumption) | exact vi_run (by with_reducible assumption) (by with_reducible assumption) | exact vi_run (by with_reducible assumption) (vi_runner _) | exact vi_mTask (by with_reducible assumption) | exact vi_mThing (by with_reducible assumption) | exact vi_mdecl (by with_reducible assumption) | exact vi_mready (by with_reducible assumption)), (by first | with_reducible assumption | exact vi_isIn7 (by with_reducible assumption) | exact vi_isThing (by with_reducible assumption) | exact vi_decl (by with_reducible assumption) | exact vi_ready (by with_reducible assumption) | exact vi_run (by with_reducible assumption) (by with_reducible assumption) | exact vi_run (by with_reducible assumption) (vi_runner _) | exact vi_mTask (by with_reducible assumption) | exact vi_mThing (by with_reducible assumption) | exact vi_mdecl (by with_reducible assumption) | exact vi_mready (by with_reducible assumption))⟩) | exact (fun _ => ⟨vi_latest (by with_reducible assumption) (by with_reducible assumption), vi_run (by with_reducible assumption) (by with_reducible assumption)⟩) | exact (fun _ => (by with_reducible assumption : ¬ v4 = 0 → _) (by with_reducible assumption)) | exact (fun _ => (by first | with_reducible assumption | exact vi_isIn7 (by with_reducible assumption) | exact vi_isThing (by with_reducible assumption) | exact vi_decl (by with_reducible assumption) | exact vi_ready (by with_reducible assumption) | exact vi_run (by with_reducible assumption) (by with_reducible assumption) | exact vi_run (by with_reducible assumption) (vi_runner _) | exact vi_mTask (by with_reducible assumption) | exact vi_mThing (by with_reducible assumption) | exact vi_mdecl (by with_reducible assumption) | exact vi_mready (by with_reducible assumption))) | exact (by first | with_reducible assumption | exact vi_isIn7 (by with_reducible assumption) | exact vi_isThing (by with_reducible assumption) | exact vi_decl (by with_reducible assumption) | exact vi_ready (by with_reducible assumption) | exact vi_run (by with_reducible assumption) (by with_reducible assumption) | exact vi_run (by with_reducible assumption) (vi_runner _) | exact vi_mTask (by with_reducible assumption) | exact vi_mThing (by with_reducible assumption) | exact vi_mdecl (by with_reducible assumption) | exact vi_mready (by with_reducible assumption))) he
      · have he := he.trans (if_neg hc2)
        refine lv_iload_n hx hb d_M_runner_19 rfl (lv_at hl 1 rfl) ?_
        refine lv_iconst (v := (-1)) hx hb d_M_runner_20 (by decide) ?_
        refine lv_icmp_eq (tgt := 33) hx hb d_M_runner_21 (by decide) (fun hc3 => ?_) (fun hc3 => ?_)
        · have he := he.trans (if_pos hc3)
          refine lv_iload_n hx hb d_M_runner_33 rfl (lv_at hl 2 rfl) ?_
          refine lv_goto (tgt := 38) hx hb d_M_runner_34 (by decide) ?_
          refine lv_istore_n hx hb d_M_runner_38 rfl hl (by decide) rfl (fun ls hl => ?_)
          have hl : lv_has ls 3 [(1, .int (nI i)), (0, .ref (ad 0)), (2, .int (nI i))] := hl
          refine lv_iinc (k := 2) (v := (nI (i + 1))) hx hb d_M_runner_39 hl rfl (by first | rfl | (rw [nI_succ]; rfl)) (by decide) rfl (fun ls hl => ?_)
          have hl : lv_has ls 3 [(2, .int (nI (i + 1))), (1, .int (nI i)), (0, .ref (ad 0))] := hl
          refine lv_goto (tgt := 4) hx hb d_M_runner_42 (by decide) ?_
          exact ih (i + 1) (nI i) ls (by omega) (lv_sub hl [2, 1, 0] rfl) (by first | with_reducible assumption | exact Or.inl rfl | exact (fun h9 => absurd h9 (by decide)) | exact (fun h9 => absurd rfl h9) | exact vi_runner _ | exact Or.inr (vp_in_nI (by omega) (by decide)) | exact Or.inr (by first | with_reducible assumption | exact vi_isIn7 (by with_reducible assumption) | exact vi_isThing (by with_reducible assumption) | exact vi_decl (by with_reducible assumption) | exact vi_ready (by with_reducible assumption) | exact vi_run (by with_reducible assumption) (by with_reducible assumption) | exact vi_run (by with_reducible assumption) (vi_runner _) | exact vi_mTask (by with_reducible assumption) | exact vi_mThing (by with_reducible assumption) | exact vi_mdecl (by with_reducible assumption) | exact vi_mready (by with_reducible assumption)) | exact (fun _ => ⟨(by first | with_reducible assumption | exact vi_isIn7 (by with_reducible assumption) | exact vi_isThing (by with_reducible assumption) | exact vi_decl (by with_reducible assumption) | exact vi_ready (by with_reducible assumption) | exact vi_run (by with_reducible assumption) (by with_reducible assumption) | exact vi_run (by with_reducible assumption) (vi_runner _) | exact vi_mTask (by with_reducible assumption) | exact vi_mThing (by with_reducible assumption) | exact vi_mdecl (by with_reducible assumption) | exact vi_mready (by with_reducible assumption)), (by first | with_reducible assumption | exact vi_isIn7 (by with_reducible assumption) | exact vi_isThing (by with_reducible assumption) | exact vi_decl (by with_reducible assumption) | exact vi_ready (by with_reducible assumption) | exact vi_run (by with_reducible assumption) (by with_reducible assumption) | exact vi_run (by with_reducible assumption) (vi_runner _) | exact vi_mTask (by with_reducible assumption) | exact vi_mThing (by with_reducible assumption) | exact vi_mdecl (by with_reducible assumption) | exact vi_mready (by with_reducible assumption))⟩) | exact (fun _ => ⟨vi_latest (by with_reducible assumption) (by with_reducible assumption), vi_run (by with_reducible assumption) (by with_reducible assumption)⟩) | exact (fun _ => (by with_reducible assumption : ¬ v4 = 0 → _) (by with_reducible assumption)) | exact (fun _ => (by first | with_reducible assumption | exact vi_isIn7 (by with_reducible assumption) | exact vi_isThing (by with_reducible assumption) | exact vi_decl (by with_reducible assumption) | exact vi_ready (by with_reducible assumption) | exact vi_run (by with_reducible assumption) (by with_reducible assumption) | exact vi_run (by with_reducible assumption) (vi_runner _) | exact vi_mTask (by with_reducible assumption) | exact vi_mThing (by with_reducible assumption) | exact vi_mdecl (by with_reducible assumption) | exact vi_mready (by with_reducible assumption))) | exact (by first | with_reducible assumption | exact vi_isIn7 (by with_reducible assumption) | exact vi_isThing (by with_reducible assumption) | exact vi_decl (by with_reducible assumption) | exact vi_ready (by with_reducible assumption) | exact vi_run (by with_reducible assumption) (by with_reducible assumption) | exact vi_run (by with_reducible assumption) (vi_runner _) | exact vi_mTask (by with_reducible assumption) | exact vi_mThing (by with_reducible assumption) | exact vi_mdecl (by with_reducible assumption) | exact vi_mready (by with_reducible assumption))) he
        · have he := he.trans (if_neg hc3)
          refine lv_aload_n hx hb d_M_runner_24 rfl (lv_at hl 0 rfl) ?_
          refine lv_iload_n hx hb d_M_runner_25 rfl (lv_at hl 2 rfl) ?_
          refine lv_iload_n hx hb d_M_runner_26 rfl (lv_at hl 1 rfl) ?_
          refine rdV (As := [.int (nI i), .int v1]) (rest := []) (na := 2) (c_M_isFirst l D cI cT cH ad st (nI i) v1 (vp_in_nI (by omega) (by decide)) (by first | with_reducible assumption | exact vi_isIn7 (by with_reducible assumption) | exact vi_isThing (by with_reducible assumption) | exact vi_decl (by with_reducible assumption) | exact vi_ready (by with_reducible assumption) | exact vi_run (by with_reducible assumption) (by with_reducible assumption) | exact vi_run (by with_reducible assumption) (vi_runner _) | exact vi_mTask (by with_reducible assumption) | exact vi_mThing (by with_reducible assumption) | exact vi_mdecl (by with_reducible assumption) | exact vi_mready (by with_reducible assumption))) ⟨hx, hb, hml, hown, hts⟩ k_531 k_533 k_16 k_28 k_534 (by decide +kernel) (by decide) (by decide) hP hK hN (q0 := 0) (ci := 4) mw_0 rfl rfl hl.1 rfl (Nat.le_of_ble_eq_true rfl) d_M_runner_27 ?_
          refine lv_if_eq (tgt := 37) hx hb d_M_runner_30 (by decide) (fun hc4 => ?_) (fun hc4 => ?_)
          · have he := he.trans (if_pos hc4)
            refine lv_iload_n hx hb d_M_runner_37 rfl (lv_at hl 1 rfl) ?_
            refine lv_istore_n hx hb d_M_runner_38 rfl hl (by decide) rfl (fun ls hl => ?_)
            have hl : lv_has ls 3 [(1, .int v1), (0, .ref (ad 0)), (2, .int (nI i))] := hl
            refine lv_iinc (k := 2) (v := (nI (i + 1))) hx hb d_M_runner_39 hl rfl (by first | rfl | (rw [nI_succ]; rfl)) (by decide) rfl (fun ls hl => ?_)
            have hl : lv_has ls 3 [(2, .int (nI (i + 1))), (1, .int v1), (0, .ref (ad 0))] := hl
            refine lv_goto (tgt := 4) hx hb d_M_runner_42 (by decide) ?_
            exact ih (i + 1) v1 ls (by omega) (lv_sub hl [2, 1, 0] rfl) (by first | with_reducible assumption | exact Or.inl rfl | exact (fun h9 => absurd h9 (by decide)) | exact (fun h9 => absurd rfl h9) | exact vi_runner _ | exact Or.inr (vp_in_nI (by omega) (by decide)) | exact Or.inr (by first | with_reducible assumption | exact vi_isIn7 (by with_reducible assumption) | exact vi_isThing (by with_reducible assumption) | exact vi_decl (by with_reducible assumption) | exact vi_ready (by with_reducible assumption) | exact vi_run (by with_reducible assumption) (by with_reducible assumption) | exact vi_run (by with_reducible assumption) (vi_runner _) | exact vi_mTask (by with_reducible assumption) | exact vi_mThing (by with_reducible assumption) | exact vi_mdecl (by with_reducible assumption) | exact vi_mready (by with_reducible assumption)) | exact (fun _ => ⟨(by first | with_reducible assumption | exact vi_isIn7 (by with_reducible assumption) | exact vi_isThing (by with_reducible assumption) | exact vi_decl (by with_reducible assumption) | exact vi_ready (by with_reducible assumption) | exact vi_run (by with_reducible assumption) (by with_reducible assumption) | exact vi_run (by with_reducible assumption) (vi_runner _) | exact vi_mTask (by with_reducible assumption) | exact vi_mThing (by with_reducible assumption) | exact vi_mdecl (by with_reducible assumption) | exact vi_mready (by with_reducible assumption)), (by first | with_reducible assumption | exact vi_isIn7 (by with_reducible assumption) | exact vi_isThing (by with_reducible assumption) | exact vi_decl (by with_reducible assumption) | exact vi_ready (by with_reducible assumption) | exact vi_run (by with_reducible assumption) (by with_reducible assumption) | exact vi_run (by with_reducible assumption) (vi_runner _) | exact vi_mTask (by with_reducible assumption) | exact vi_mThing (by with_reducible assumption) | exact vi_mdecl (by with_reducible assumption) | exact vi_mready (by with_reducible assumption))⟩) | exact (fun _ => ⟨vi_latest (by with_reducible assumption) (by with_reducible assumption), vi_run (by with_reducible assumption) (by with_reducible assumption)⟩) | exact (fun _ => (by with_reducible assumption : ¬ v4 = 0 → _) (by with_reducible assumption)) | exact (fun _ => (by first | with_reducible assumption | exact vi_isIn7 (by with_reducible assumption) | exact vi_isThing (by with_reducible assumption) | exact vi_decl (by with_reducible assumption) | exact vi_ready (by with_reducible assumption) | exact vi_run (by with_reducible assumption) (by with_reducible assumption) | exact vi_run (by with_reducible assumption) (vi_runner _) | exact vi_mTask (by with_reducible assumption) | exact vi_mThing (by with_reducible assumption) | exact vi_mdecl (by with_reducible assumption) | exact vi_mready (by with_reducible assumption))) | exact (by first | with_reducible assumption | exact vi_isIn7 (by with_reducible assumption) | exact vi_isThing (by with_reducible assumption) | exact vi_decl (by with_reducible assumption) | exact vi_ready (by with_reducible assumption) | exact vi_run (by with_reducible assumption) (by with_reducible assumption) | exact vi_run (by with_reducible assumption) (vi_runner _) | exact vi_mTask (by with_reducible assumption) | exact vi_mThing (by with_reducible assumption) | exact vi_mdecl (by with_reducible assumption) | exact vi_mready (by with_reducible assumption))) he
          · have he := he.trans (if_neg hc4)
            refine lv_iload_n hx hb d_M_runner_33 rfl (lv_at hl 2 rfl) ?_
            refine lv_goto (tgt := 38) hx hb d_M_runner_34 (by decide) ?_
            refine lv_istore_n hx hb d_M_runner_38 rfl hl (by decide) rfl (fun ls hl => ?_)
            have hl : lv_has ls 3 [(1, .int (nI i)), (0, .ref (ad 0)), (2, .int (nI i))] := hl
            refine lv_iinc (k := 2) (v := (nI (i + 1))) hx hb d_M_runner_39 hl rfl (by first | rfl | (rw [nI_succ]; rfl)) (by decide) rfl (fun ls hl => ?_)
            have hl : lv_has ls 3 [(2, .int (nI (i + 1))), (1, .int (nI i)), (0, .ref (ad 0))] := hl
            refine lv_goto (tgt := 4) hx hb d_M_runner_42 (by decide) ?_
            exact ih (i + 1) (nI i) ls (by omega) (lv_sub hl [2, 1, 0] rfl) (by first | with_reducible assumption | exact Or.inl rfl | exact (fun h9 => absurd h9 (by decide)) | exact (fun h9 => absurd rfl h9) | exact vi_runner _ | exact Or.inr (vp_in_nI (by omega) (by decide)) | exact Or.inr (by first | with_reducible assumption | exact vi_isIn7 (by with_reducible assumption) | exact vi_isThing (by with_reducible assumption) | exact vi_decl (by with_reducible assumption) | exact vi_ready (by with_reducible assumption) | exact vi_run (by with_reducible assumption) (by with_reducible assumption) | exact vi_run (by with_reducible assumption) (vi_runner _) | exact vi_mTask (by with_reducible assumption) | exact vi_mThing (by with_reducible assumption) | exact vi_mdecl (by with_reducible assumption) | exact vi_mready (by with_reducible assumption)) | exact (fun _ => ⟨(by first | with_reducible assumption | exact vi_isIn7 (by with_reducible assumption) | exact vi_isThing (by with_reducible assumption) | exact vi_decl (by with_reducible assumption) | exact vi_ready (by with_reducible assumption) | exact vi_run (by with_reducible assumption) (by with_reducible assumption) | exact vi_run (by with_reducible assumption) (vi_runner _) | exact vi_mTask (by with_reducible assumption) | exact vi_mThing (by with_reducible assumption) | exact vi_mdecl (by with_reducible assumption) | exact vi_mready (by with_reducible assumption)), (by first | with_reducible assumption | exact vi_isIn7 (by with_reducible assumption) | exact vi_isThing (by with_reducible assumption) | exact vi_decl (by with_reducible assumption) | exact vi_ready (by with_reducible assumption) | exact vi_run (by with_reducible assumption) (by with_reducible assumption) | exact vi_run (by with_reducible assumption) (vi_runner _) | exact vi_mTask (by with_reducible assumption) | exact vi_mThing (by with_reducible assumption) | exact vi_mdecl (by with_reducible assumption) | exact vi_mready (by with_reducible assumption))⟩) | exact (fun _ => ⟨vi_latest (by with_reducible assumption) (by with_reducible assumption), vi_run (by with_reducible assumption) (by with_reducible assumption)⟩) | exact (fun _ => (by with_reducible assumption : ¬ v4 = 0 → _) (by with_reducible assumption)) | exact (fun _ => (by first | with_reducible assumption | exact vi_isIn7 (by with_reducible assumption) | exact vi_isThing (by with_reducible assumption) | exact vi_decl (by with_reducible assumption) | exact vi_ready (by with_reducible assumption) | exact vi_run (by with_reducible assumption) (by with_reducible assumption) | exact vi_run (by with_reducible assumption) (vi_runner _) | exact vi_mTask (by with_reducible assumption) | exact vi_mThing (by with_reducible assumption) | exact vi_mdecl (by with_reducible assumption) | exact vi_mready (by with_reducible assumption))) | exact (by first | with_reducible assumption | exact vi_isIn7 (by with_reducible assumption) | exact vi_isThing (by with_reducible assumption) | exact vi_decl (by with_reducible assumption) | exact vi_ready (by with_reducible assumption) | exact vi_run (by with_reducible assumption) (by with_reducible assumption) | exact vi_run (by with_reducible assumption) (vi_runner _) | exact vi_mTask (by with_reducible assumption) | exact vi_mThing (by with_reducible assumption) | exact vi_mdecl (by with_reducible assumption) | exact vi_mready (by with_reducible assumption))) he
  have he := f_M_runner.eq_1 st
  refine lv_iconst (v := (-1)) hx hb d_M_runner_0 (by decide) ?_
  refine lv_istore_n hx hb d_M_runner_1 rfl hl (by decide) rfl (fun ls hl => ?_)
  have hl : lv_has ls 3 [(1, .int (-1)), (0, .ref (ad 0))] := hl
  refine lv_iconst (v := 0) hx hb d_M_runner_2 (by decide) ?_
  refine lv_istore_n hx hb d_M_runner_3 rfl hl (by decide) rfl (fun ls hl => ?_)
  have hl : lv_has ls 3 [(2, .int 0), (1, .int (-1)), (0, .ref (ad 0))] := hl
  exact L4 8 0 (-1) ls (by first | decide | omega) (lv_sub hl [2, 1, 0] rfl) (by first | with_reducible assumption | exact Or.inl rfl | exact (fun h9 => absurd h9 (by decide)) | exact (fun h9 => absurd rfl h9) | exact vi_runner _ | exact Or.inr (vp_in_nI (by omega) (by decide)) | exact Or.inr (by first | with_reducible assumption | exact vi_isIn7 (by with_reducible assumption) | exact vi_isThing (by with_reducible assumption) | exact vi_decl (by with_reducible assumption) | exact vi_ready (by with_reducible assumption) | exact vi_run (by with_reducible assumption) (by with_reducible assumption) | exact vi_run (by with_reducible assumption) (vi_runner _) | exact vi_mTask (by with_reducible assumption) | exact vi_mThing (by with_reducible assumption) | exact vi_mdecl (by with_reducible assumption) | exact vi_mready (by with_reducible assumption)) | exact (fun _ => ⟨(by first | with_reducible assumption | exact vi_isIn7 (by with_reducible assumption) | exact vi_isThing (by with_reducible assumption) | exact vi_decl (by with_reducible assumption) | exact vi_ready (by with_reducible assumption) | exact vi_run (by with_reducible assumption) (by with_reducible assumption) | exact vi_run (by with_reducible assumption) (vi_runner _) | exact vi_mTask (by with_reducible assumption) | exact vi_mThing (by with_reducible assumption) | exact vi_mdecl (by with_reducible assumption) | exact vi_mready (by with_reducible assumption)), (by first | with_reducible assumption | exact vi_isIn7 (by with_reducible assumption) | exact vi_isThing (by with_reducible assumption) | exact vi_decl (by with_reducible assumption) | exact vi_ready (by with_reducible assumption) | exact vi_run (by with_reducible assumption) (by with_reducible assumption) | exact vi_run (by with_reducible assumption) (vi_runner _) | exact vi_mTask (by with_reducible assumption) | exact vi_mThing (by with_reducible assumption) | exact vi_mdecl (by with_reducible assumption) | exact vi_mready (by with_reducible assumption))⟩) | exact (fun _ => ⟨vi_latest (by with_reducible assumption) (by with_reducible assumption), vi_run (by with_reducible assumption) (by with_reducible assumption)⟩) | exact (fun _ => (by with_reducible assumption : ¬ v4 = 0 → _) (by with_reducible assumption)) | exact (fun _ => (by first | with_reducible assumption | exact vi_isIn7 (by with_reducible assumption) | exact vi_isThing (by with_reducible assumption) | exact vi_decl (by with_reducible assumption) | exact vi_ready (by with_reducible assumption) | exact vi_run (by with_reducible assumption) (by with_reducible assumption) | exact vi_run (by with_reducible assumption) (vi_runner _) | exact vi_mTask (by with_reducible assumption) | exact vi_mThing (by with_reducible assumption) | exact vi_mdecl (by with_reducible assumption) | exact vi_mready (by with_reducible assumption))) | exact (by first | with_reducible assumption | exact vi_isIn7 (by with_reducible assumption) | exact vi_isThing (by with_reducible assumption) | exact vi_decl (by with_reducible assumption) | exact vi_ready (by with_reducible assumption) | exact vi_run (by with_reducible assumption) (by with_reducible assumption) | exact vi_run (by with_reducible assumption) (vi_runner _) | exact vi_mTask (by with_reducible assumption) | exact vi_mThing (by with_reducible assumption) | exact vi_mdecl (by with_reducible assumption) | exact vi_mready (by with_reducible assumption))) he
set_option maxHeartbeats 4000000 in
set_option maxRecDepth 100000 in
theorem c_M_add (l : Launch) (D : va_G) (cI cT cH : ClassId) (ad : Nat → Nat) (st : St) (p1 : Int32) (p2 : Int32) (p3 : Int32) (hI : ∀ i j, i < 13 → j < 13 → ad i = ad j → i = j) (hy0 : vp_in (irem (st 0 16) 40) 40) : Met l y_M_add w_M_add { frames := 0, cells := 0, slots := 0, locals := 0 } (va_Pc [.ref (ad 0), .int p1, .int p2, .int p3] (gW D cI cT cH (mw cI ad st))) (qV D (mw cI ad (f_M_add st p1 p2 p3)) (inA ad 13)) 0 0 (inA ad 13) := by
  refine Met.ofW (cc := b_M_add) (maxL := 4) (ret := none) (by decide +kernel) rfl ?_
  intro p e s m args below meth c s₁ B hml hv
  obtain ⟨rfl, hP, hK, hN⟩ := hv
  have hx := B.exec
  have hb := B.bytes
  have hr := B.returns
  have hlocks := B.notSynchronized
  have hts0 := atoms_spec (ws := w_M_add) B.pre
  have hts : ∀ w ∈ TT, w.before [.ref (ad 0), .int p1, .int p2, .int p3].toArray s = true := fun w h => hts0 w (List.mem_cons_of_mem _ h)
  have hown : s.vm.findClass R_M = some m.cls := findClass_of_methodNamed B.named
  have hS : va_S (inA ad 13) s.heap s.heap [] := va_S.rf
  have hl := lv_entry ([.ref (ad 0), .int p1, .int p2, .int p3]) (n := 4) (Nat.le_of_ble_eq_true rfl)
  rw [lg_entry_eq]
  generalize (lg_sl ([.ref (ad 0), .int p1, .int p2, .int p3]) ++ List.replicate (4 - (lg_sl ([.ref (ad 0), .int p1, .int p2, .int p3])).length) Slot.unset).toArray = ls at hl ⊢
  have hl : lv_has ls 4 [(0, .ref (ad 0)), (1, .int p1), (2, .int p2), (3, .int p3)] := hl
  have he := f_M_add.eq_1 st p1 p2 p3
  refine lv_aload_n hx hb d_M_add_0 rfl (lv_at hl 0 rfl) ?_
  refine va_get (D := D) (ci := 4) (v := .ref (ad 12)) (C := R_M) (T := F_M) (N := 18) hx hb hts in_M hown hK hP 0 mw_0 rfl 17 (by decide) (hts _ k_451) (fun _ h9 => h9) rfl d_M_add_1 ?_
  refine lv_aload_n hx hb d_M_add_4 rfl (lv_at hl 0 rfl) ?_
  refine va_get (D := D) (ci := 4) (v := .int (st 0 16)) (C := R_M) (T := F_M) (N := 18) hx hb hts in_M hown hK hP 0 mw_0 rfl 16 (by decide) (hts _ k_450) (fun _ h9 => h9) rfl d_M_add_5 ?_
  refine lv_bipush (v := 40) hx hb d_M_add_8 (by decide) ?_
  refine lv_irem hx hb d_M_add_10 (by first | with_reducible assumption | exact vi_ne0 (by with_reducible assumption) | exact hy1 _ (by omega) (i32_pos (by with_reducible assumption)) | decide) ?_
  refine W.eq (g2 := F0 m 11 ls [.int (irem (st 0 16) 40), .ref (ad 12)]) rfl ?_
  refine lv_aload_n hx hb d_M_add_11 rfl (lv_at hl 0 rfl) ?_
  refine va_get (D := D) (ci := 4) (v := .int (st 0 2)) (C := R_M) (T := F_M) (N := 18) hx hb hts in_M hown hK hP 0 mw_0 rfl 2 (by decide) (hts _ k_436) (fun _ h9 => h9) rfl d_M_add_12 ?_
  refine lv_ldc hx hb hown (hts _ k_543) d_M_add_15 ?_
  refine lv_irem hx hb d_M_add_17 (by first | with_reducible assumption | exact vi_ne0 (by with_reducible assumption) | exact hy1 _ (by omega) (i32_pos (by with_reducible assumption)) | decide) ?_
  refine W.eq (g2 := F0 m 18 ls [.int (irem (st 0 2) 65536), .int (irem (st 0 16) 40), .ref (ad 12)]) rfl ?_
  refine lv_sipush (v := 4096) hx hb d_M_add_18 (by decide) ?_
  refine lv_imul hx hb d_M_add_21 ?_
  refine lv_sipush (v := 256) hx hb d_M_add_22 (by decide) ?_
  refine lv_iload_n hx hb d_M_add_25 rfl (lv_at hl 3 rfl) ?_
  refine lv_imul hx hb d_M_add_26 ?_
  refine lv_iadd hx hb d_M_add_27 ?_
  refine lv_bipush (v := 16) hx hb d_M_add_28 (by decide) ?_
  refine lv_iload_n hx hb d_M_add_30 rfl (lv_at hl 2 rfl) ?_
  refine lv_imul hx hb d_M_add_31 ?_
  refine lv_iadd hx hb d_M_add_32 ?_
  refine lv_iload_n hx hb d_M_add_33 rfl (lv_at hl 1 rfl) ?_
  refine lv_iadd hx hb d_M_add_34 ?_
  have hi1 : vp_in (irem (st 0 16) 40) 40 := (by first | with_reducible assumption | exact vi_isIn7 (by with_reducible assumption) | exact vi_isThing (by with_reducible assumption) | exact vi_decl (by with_reducible assumption) | exact vi_ready (by with_reducible assumption) | exact vi_run (by with_reducible assumption) (by with_reducible assumption) | exact vi_run (by with_reducible assumption) (vi_runner _) | exact vi_mTask (by with_reducible assumption) | exact vi_mThing (by with_reducible assumption) | exact vi_mdecl (by with_reducible assumption) | exact vi_mready (by with_reducible assumption))
  refine va_iast hx hb hK hP (mw_D hI) hS 12 0 mw_12 rfl hi1 d_M_add_35 (fun H locs hP _ hS => ?_)
  rw [mp_12] at hP
  generalize hw3 : wr st 12 (irem (st 0 16) 40).toNatClampNeg (((((irem (st 0 2) 65536) * 4096) + (256 * p3)) + (16 * p2)) + p1) = sw2 at hP he
  refine W.eq (g2 := F0 m 36 ls []) rfl ?_
  rw [f_M_add_S36] at he
  refine lv_aload_n hx hb d_M_add_36 rfl (lv_at hl 0 rfl) ?_
  refine lv_dup hx hb d_M_add_37 rfl ?_
  refine va_get (D := D) (ci := 4) (v := .int (sw2 0 16)) (C := R_M) (T := F_M) (N := 18) hx hb hts in_M hown hK hP 0 mw_0 rfl 16 (by decide) (hts _ k_450) (fun _ h9 => h9) rfl d_M_add_38 ?_
  refine lv_iconst (v := 1) hx hb d_M_add_41 (by decide) ?_
  refine lv_iadd hx hb d_M_add_42 ?_
  refine va_put (D := D) (ci := 4) (v := .int ((sw2 0 16) + 1)) (ty := .int) (C := R_M) (T := F_M) (N := 18) hx hb hts in_M ft_M ft_M_ok n_M hown hK hP (mw_D hI) hS 0 mw_0 rfl 16 (by decide) (hts _ k_450) (fun _ h9 => h9) rfl (by decide +kernel) rfl rfl (Nat.le_of_ble_eq_true rfl) d_M_add_43 (fun H locs hP _ hS => ?_)
  rw [mp_0 (k := 16) (by decide)] at hP
  generalize hw5 : wr sw2 0 16 ((sw2 0 16) + 1) = sw4 at hP he
  refine W.eq (g2 := F0 m 46 ls []) rfl ?_
  exact W.vret hx hb hr (fun t ht _ => ⟨⟨(), rfl, trivial, (by rw [he]; show va_P _ _ _ t.heap; rw [ht]; exact hP)⟩, hS.F ht⟩) hS.2.2 d_M_add_46
set_option maxHeartbeats 4000000 in
set_option maxRecDepth 100000 in
theorem c_M_tell (l : Launch) (D : va_G) (cI cT cH : ClassId) (ad : Nat → Nat) (st : St) (p1 : Int32) (p2 : Int32) (p3 : Int32) (p4 : Int32) (hI : ∀ i j, i < 13 → j < 13 → ad i = ad j → i = j) (hy0 : vp_in (irem (st 0 16) 40) 40 ∧ vp_in (irem (st 0 16 + 1) 40) 40) : Met l y_M_tell w_M_tell { frames := 2, cells := 0, slots := 0, locals := 44 } (va_Pc [.ref (ad 0), .int p1, .int p2, .int p3, .int p4] (gW D cI cT cH (mw cI ad st))) (qV D (mw cI ad (f_M_tell st p1 p2 p3 p4)) (inA ad 13)) 0 0 (inA ad 13) := by
  refine Met.ofW (cc := b_M_tell) (maxL := 6) (ret := none) (by decide +kernel) rfl ?_
  intro p e s m args below meth c s₁ B hml hv
  obtain ⟨rfl, hP, hK, hN⟩ := hv
  have hx := B.exec
  have hb := B.bytes
  have hr := B.returns
  have hlocks := B.notSynchronized
  have hts0 := atoms_spec (ws := w_M_tell) B.pre
  have hts : ∀ w ∈ TT, w.before [.ref (ad 0), .int p1, .int p2, .int p3, .int p4].toArray s = true := fun w h => hts0 w (List.mem_cons_of_mem _ h)
  have hown : s.vm.findClass R_M = some m.cls := findClass_of_methodNamed B.named
  have hS : va_S (inA ad 13) s.heap s.heap [] := va_S.rf
  have hl := lv_entry ([.ref (ad 0), .int p1, .int p2, .int p3, .int p4]) (n := 6) (Nat.le_of_ble_eq_true rfl)
  rw [lg_entry_eq]
  generalize (lg_sl ([.ref (ad 0), .int p1, .int p2, .int p3, .int p4]) ++ List.replicate (6 - (lg_sl ([.ref (ad 0), .int p1, .int p2, .int p3, .int p4])).length) Slot.unset).toArray = ls at hl ⊢
  have hl : lv_has ls 6 [(0, .ref (ad 0)), (1, .int p1), (2, .int p2), (3, .int p3), (4, .int p4)] := hl
  have J35 : ∀ (x1 : Int32) (x2 : Int32) (sl : St) (H : Heap) (locs : List Loc) (ls : Array Slot), lv_has ls 6 [] → va_P D cls9 (mw cI ad sl) H → va_S (inA ad 13) s.heap H locs → (vp_in (irem (sl 0 16) 40) 40) → f_M_tell st p1 p2 p3 p4 = f_M_tell_B35 sl x1 x2 → W p l e (headSpec w_M_tell { frames := 2, cells := 0, slots := 0, locals := 44 }).room s m [.ref (ad 0), .int p1, .int p2, .int p3, .int p4].toArray below meth c H locs 0 0 (MQ below (qV D (mw cI ad (f_M_tell st p1 p2 p3 p4)) (inA ad 13)) [.ref (ad 0), .int p1, .int p2, .int p3, .int p4].toArray s 0 0 (inA ad 13)) (F0 m 35 ls [.int x2, .int x1, .ref (ad 0)]) := by
    intro x1 x2 sl H locs ls hl hP hS g0 he
    rw [f_M_tell_B35] at he
    refine lv_bipush (v := 15) hx hb d_M_tell_35 (by decide) ?_
    refine wcV (As := [.int x1, .int x2, .int 15]) (rest := []) (na := 3) (c_M_add l D cI cT cH ad sl x1 x2 15 hI (by first | exact hy0.1 | exact g0 | assumption)) ⟨hx, hb, hml, hown, hts⟩ k_539 k_541 k_18 k_28 k_542 (by decide +kernel) (by decide) (by decide) hP hK hN (q0 := 0) (ci := 4) mw_0 rfl hS rfl hl.1 rfl (Nat.le_of_ble_eq_true rfl) d_M_tell_37 (fun H locs hP hS => ?_)
    generalize hw2 : f_M_add sl x1 x2 15 = sw1 at hP he
    refine W.eq (g2 := F0 m 40 ls []) rfl ?_
    exact W.vret hx hb hr (fun t ht _ => ⟨⟨(), rfl, trivial, (by rw [he]; show va_P _ _ _ t.heap; rw [ht]; exact hP)⟩, hS.F ht⟩) hS.2.2 d_M_tell_40
  have he := f_M_tell.eq_1 st p1 p2 p3 p4
  refine lv_aload_n hx hb d_M_tell_0 rfl (lv_at hl 0 rfl) ?_
  refine lv_iload_n hx hb d_M_tell_1 rfl (lv_at hl 1 rfl) ?_
  refine lv_iload_n hx hb d_M_tell_2 rfl (lv_at hl 2 rfl) ?_
  refine lv_iload_n hx hb d_M_tell_3 rfl (lv_at hl 3 rfl) ?_
  refine wcV (As := [.int p1, .int p2, .int p3]) (rest := []) (na := 3) (c_M_add l D cI cT cH ad st p1 p2 p3 hI (by first | exact hy0.1 | exact g0 | assumption)) ⟨hx, hb, hml, hown, hts⟩ k_539 k_541 k_18 k_28 k_542 (by decide +kernel) (by decide) (by decide) hP hK hN (q0 := 0) (ci := 4) mw_0 rfl hS rfl hl.1 rfl (Nat.le_of_ble_eq_true rfl) d_M_tell_4 (fun H locs hP hS => ?_)
  generalize hw4 : f_M_add st p1 p2 p3 = sw3 at hP he
  refine W.eq (g2 := F0 m 7 ls []) rfl ?_
  rw [f_M_tell_S7] at he
  have hm2 : vp_in (irem (sw3 0 16) 40) 40 := by rw [show sw3 0 16 = st 0 16 + 1 from by rw [← hw4]; rfl]; exact hy0.2
  refine lv_aload_n hx hb d_M_tell_7 rfl (lv_at hl 0 rfl) ?_
  refine rdV (As := []) (rest := []) (na := 0) (c_M_runner l D cI cT cH ad sw3  ) ⟨hx, hb, hml, hown, hts⟩ k_527 k_529 k_15 k_28 k_530 (by decide +kernel) (by decide) (by decide) hP hK hN (q0 := 0) (ci := 4) mw_0 rfl rfl hl.1 rfl (Nat.le_of_ble_eq_true rfl) d_M_tell_8 ?_
  refine lv_istore hx hb d_M_tell_11 hl (by decide) rfl (fun ls hl => ?_)
  have hl : lv_has ls 6 [(5, .int (f_M_runner sw3)), (0, .ref (ad 0)), (1, .int p1), (2, .int p2), (3, .int p3), (4, .int p4)] := hl
  refine lv_iload hx hb d_M_tell_13 (lv_at hl 0 rfl) ?_
  refine lv_iload hx hb d_M_tell_15 (lv_at hl 5 rfl) ?_
  refine lv_icmp_eq (tgt := 40) hx hb d_M_tell_17 (by decide) (fun hc5 => ?_) (fun hc5 => ?_)
  · have he := he.trans (if_pos hc5)
    exact W.vret hx hb hr (fun t ht _ => ⟨⟨(), rfl, trivial, (by rw [he]; show va_P _ _ _ t.heap; rw [ht]; exact hP)⟩, hS.F ht⟩) hS.2.2 d_M_tell_40
  · have he := he.trans (if_neg hc5)
    refine lv_aload_n hx hb d_M_tell_20 rfl (lv_at hl 1 rfl) ?_
    refine lv_iconst (v := 5) hx hb d_M_tell_21 (by decide) ?_
    refine lv_iload hx hb d_M_tell_22 (lv_at hl 0 rfl) ?_
    refine lv_iconst (v := (-1)) hx hb d_M_tell_24 (by decide) ?_
    refine lv_icmp_ne (tgt := 33) hx hb d_M_tell_25 (by decide) (fun hc6 => ?_) (fun hc6 => ?_)
    · have he := he.trans (if_neg hc6)
      refine lv_iload hx hb d_M_tell_33 (lv_at hl 0 rfl) ?_
      exact J35 5 (f_M_runner sw3) sw3 H locs ls (lv_sub hl [] rfl) hP hS (by first | with_reducible assumption | exact Or.inl rfl | exact (fun h9 => absurd h9 (by decide)) | exact (fun h9 => absurd rfl h9) | exact vi_runner _ | exact Or.inr (vp_in_nI (by omega) (by decide)) | exact Or.inr (by first | with_reducible assumption | exact vi_isIn7 (by with_reducible assumption) | exact vi_isThing (by with_reducible assumption) | exact vi_decl (by with_reducible assumption) | exact vi_ready (by with_reducible assumption) | exact vi_run (by with_reducible assumption) (by with_reducible assumption) | exact vi_run (by with_reducible assumption) (vi_runner _) | exact vi_mTask (by with_reducible assumption) | exact vi_mThing (by with_reducible assumption) | exact vi_mdecl (by with_reducible assumption) | exact vi_mready (by with_reducible assumption)) | exact (fun _ => ⟨(by first | with_reducible assumption | exact vi_isIn7 (by with_reducible assumption) | exact vi_isThing (by with_reducible assumption) | exact vi_decl (by with_reducible assumption) | exact vi_ready (by with_reducible assumption) | exact vi_run (by with_reducible assumption) (by with_reducible assumption) | exact vi_run (by with_reducible assumption) (vi_runner _) | exact vi_mTask (by with_reducible assumption) | exact vi_mThing (by with_reducible assumption) | exact vi_mdecl (by with_reducible assumption) | exact vi_mready (by with_reducible assumption)), (by first | with_reducible assumption | exact vi_isIn7 (by with_reducible assumption) | exact vi_isThing (by with_reducible assumption) | exact vi_decl (by with_reducible assumption) | exact vi_ready (by with_reducible assumption) | exact vi_run (by with_reducible assumption) (by with_reducible assumption) | exact vi_run (by with_reducible assumption) (vi_runner _) | exact vi_mTask (by with_reducible assumption) | exact vi_mThing (by with_reducible assumption) | exact vi_mdecl (by with_reducible assumption) | exact vi_mready (by with_reducible assumption))⟩) | exact (fun _ => ⟨vi_latest (by with_reducible assumption) (by with_reducible assumption), vi_run (by with_reducible assumption) (by with_reducible assumption)⟩) | exact (fun _ => (by with_reducible assumption : ¬ v4 = 0 → _) (by with_reducible assumption)) | exact (fun _ => (by first | with_reducible assumption | exact vi_isIn7 (by with_reducible assumption) | exact vi_isThing (by with_reducible assumption) | exact vi_decl (by with_reducible assumption) | exact vi_ready (by with_reducible assumption) | exact vi_run (by with_reducible assumption) (by with_reducible assumption) | exact vi_run (by with_reducible assumption) (vi_runner _) | exact vi_mTask (by with_reducible assumption) | exact vi_mThing (by with_reducible assumption) | exact vi_mdecl (by with_reducible assumption) | exact vi_mready (by with_reducible assumption))) | exact (by first | with_reducible assumption | exact vi_isIn7 (by with_reducible assumption) | exact vi_isThing (by with_reducible assumption) | exact vi_decl (by with_reducible assumption) | exact vi_ready (by with_reducible assumption) | exact vi_run (by with_reducible assumption) (by with_reducible assumption) | exact vi_run (by with_reducible assumption) (vi_runner _) | exact vi_mTask (by with_reducible assumption) | exact vi_mThing (by with_reducible assumption) | exact vi_mdecl (by with_reducible assumption) | exact vi_mready (by with_reducible assumption))) he
    · have he := he.trans (if_pos hc6)
      refine lv_bipush (v := 8) hx hb d_M_tell_28 (by decide) ?_
      refine lv_goto (tgt := 35) hx hb d_M_tell_30 (by decide) ?_
      exact J35 5 8 sw3 H locs ls (lv_sub hl [] rfl) hP hS (by first | with_reducible assumption | exact Or.inl rfl | exact (fun h9 => absurd h9 (by decide)) | exact (fun h9 => absurd rfl h9) | exact vi_runner _ | exact Or.inr (vp_in_nI (by omega) (by decide)) | exact Or.inr (by first | with_reducible assumption | exact vi_isIn7 (by with_reducible assumption) | exact vi_isThing (by with_reducible assumption) | exact vi_decl (by with_reducible assumption) | exact vi_ready (by with_reducible assumption) | exact vi_run (by with_reducible assumption) (by with_reducible assumption) | exact vi_run (by with_reducible assumption) (vi_runner _) | exact vi_mTask (by with_reducible assumption) | exact vi_mThing (by with_reducible assumption) | exact vi_mdecl (by with_reducible assumption) | exact vi_mready (by with_reducible assumption)) | exact (fun _ => ⟨(by first | with_reducible assumption | exact vi_isIn7 (by with_reducible assumption) | exact vi_isThing (by with_reducible assumption) | exact vi_decl (by with_reducible assumption) | exact vi_ready (by with_reducible assumption) | exact vi_run (by with_reducible assumption) (by with_reducible assumption) | exact vi_run (by with_reducible assumption) (vi_runner _) | exact vi_mTask (by with_reducible assumption) | exact vi_mThing (by with_reducible assumption) | exact vi_mdecl (by with_reducible assumption) | exact vi_mready (by with_reducible assumption)), (by first | with_reducible assumption | exact vi_isIn7 (by with_reducible assumption) | exact vi_isThing (by with_reducible assumption) | exact vi_decl (by with_reducible assumption) | exact vi_ready (by with_reducible assumption) | exact vi_run (by with_reducible assumption) (by with_reducible assumption) | exact vi_run (by with_reducible assumption) (vi_runner _) | exact vi_mTask (by with_reducible assumption) | exact vi_mThing (by with_reducible assumption) | exact vi_mdecl (by with_reducible assumption) | exact vi_mready (by with_reducible assumption))⟩) | exact (fun _ => ⟨vi_latest (by with_reducible assumption) (by with_reducible assumption), vi_run (by with_reducible assumption) (by with_reducible assumption)⟩) | exact (fun _ => (by with_reducible assumption : ¬ v4 = 0 → _) (by with_reducible assumption)) | exact (fun _ => (by first | with_reducible assumption | exact vi_isIn7 (by with_reducible assumption) | exact vi_isThing (by with_reducible assumption) | exact vi_decl (by with_reducible assumption) | exact vi_ready (by with_reducible assumption) | exact vi_run (by with_reducible assumption) (by with_reducible assumption) | exact vi_run (by with_reducible assumption) (vi_runner _) | exact vi_mTask (by with_reducible assumption) | exact vi_mThing (by with_reducible assumption) | exact vi_mdecl (by with_reducible assumption) | exact vi_mready (by with_reducible assumption))) | exact (by first | with_reducible assumption | exact vi_isIn7 (by with_reducible assumption) | exact vi_isThing (by with_reducible assumption) | exact vi_decl (by with_reducible assumption) | exact vi_ready (by with_reducible assumption) | exact vi_run (by with_reducible assumption) (by with_reducible assumption) | exact vi_run (by with_reducible assumption) (vi_runner _) | exact vi_mTask (by with_reducible assumption) | exact vi_mThing (by with_reducible assumption) | exact vi_mdecl (by with_reducible assumption) | exact vi_mready (by with_reducible assumption))) he
set_option maxHeartbeats 4000000 in
set_option maxRecDepth 100000 in
theorem c_M_top (l : Launch) (D : va_G) (cI cT cH : ClassId) (ad : Nat → Nat) (st : St) (p1 : Int32) (hy0 : vp_in p1 6) : Met l y_M_top w_M_top { frames := 0, cells := 0, slots := 0, locals := 0 } (va_Pc [.ref (ad 0), .int p1] (gW D cI cT cH (mw cI ad st))) (QcRead (f_M_top st p1)) 0 0 (fun _ => False) := by
  refine Met.ofW (cc := b_M_top) (maxL := 4) (ret := (some .int)) (by decide +kernel) rfl ?_
  intro p e s m args below meth c s₁ B hml hv
  obtain ⟨rfl, hP, hK, hN⟩ := hv
  have hx := B.exec
  have hb := B.bytes
  have hr := B.returns
  have hlocks := B.notSynchronized
  have hts0 := atoms_spec (ws := w_M_top) B.pre
  have hts : ∀ w ∈ TT, w.before [.ref (ad 0), .int p1].toArray s = true := fun w h => hts0 w (List.mem_cons_of_mem _ h)
  have hown : s.vm.findClass R_M = some m.cls := findClass_of_methodNamed B.named
  have hl := lv_entry ([.ref (ad 0), .int p1]) (n := 4) (Nat.le_of_ble_eq_true rfl)
  rw [lg_entry_eq]
  generalize (lg_sl ([.ref (ad 0), .int p1]) ++ List.replicate (4 - (lg_sl ([.ref (ad 0), .int p1])).length) Slot.unset).toArray = ls at hl ⊢
  have hl : lv_has ls 4 [(0, .ref (ad 0)), (1, .int p1)] := hl
  have L4 : ∀ (n i : Nat) (v2 : Int32) (ls : Array Slot), i + n = 8 → lv_has ls 4 [(0, .ref (ad 0)), (1, .int p1), (2, .int v2), (3, .int (nI i))] → f_M_top st p1 = f_M_top_L4 n i st p1 v2 → W p l e (headSpec w_M_top { frames := 0, cells := 0, slots := 0, locals := 0 }).room s m [.ref (ad 0), .int p1].toArray below meth c s.heap [] 0 0 (MQ below (QcRead (f_M_top st p1)) [.ref (ad 0), .int p1].toArray s 0 0 (fun _ => False)) (F0 m 4 ls []) := by
    intro n
    induction n with
    | zero =>
      intro i v2 ls hcnt hl he
      have hz : i = 8 := by omega
      subst hz
      rw [f_M_top_L4] at he
      refine lv_iload_n hx hb d_M_top_4 rfl (lv_at hl 3 rfl) ?_
      refine lv_bipush (v := 8) hx hb d_M_top_5 (by decide) ?_
      refine lv_icmp_ge (tgt := 51) hx hb d_M_top_7 (by decide) (fun _ => ?_) (fun h9 => absurd (by decide) h9)
      refine lv_iload_n hx hb d_M_top_51 rfl (lv_at hl 2 rfl) ?_
      exact W.iret (v := v2) hx hb hr (fun t ht _ => ⟨by rw [he], ht⟩) (fun _ h => nomatch h) d_M_top_52
    | succ n ih =>
      intro i v2 ls hcnt hl he
      have hi8 : i < 8 := by omega
      rw [f_M_top_L4] at he
      refine lv_iload_n hx hb d_M_top_4 rfl (lv_at hl 3 rfl) ?_
      refine lv_bipush (v := 8) hx hb d_M_top_5 (by decide) ?_
      refine lv_icmp_ge (tgt := 51) hx hb d_M_top_7 (by decide) (fun h9 => absurd h9 (nlt_8 hi8)) (fun _ => ?_)
      refine lv_aload_n hx hb d_M_top_10 rfl (lv_at hl 0 rfl) ?_
      refine va_get (D := D) (ci := 4) (v := .ref (ad 8)) (C := R_M) (T := F_M) (N := 18) hx hb hts in_M hown hK hP 0 mw_0 rfl 11 (by decide) (hts _ k_445) (fun _ h9 => h9) rfl d_M_top_11 ?_
      refine lv_bipush (v := 6) hx hb d_M_top_14 (by decide) ?_
      refine lv_iload_n hx hb d_M_top_16 rfl (lv_at hl 3 rfl) ?_
      refine lv_imul hx hb d_M_top_17 ?_
      refine lv_iload_n hx hb d_M_top_18 rfl (lv_at hl 1 rfl) ?_
      refine lv_iadd hx hb d_M_top_19 ?_
      have hi1 : vp_in ((6 * (nI i)) + p1) 48 := (vi_six1 (by omega) (by first | with_reducible assumption | exact vi_isIn7 (by with_reducible assumption) | exact vi_isThing (by with_reducible assumption) | exact vi_decl (by with_reducible assumption) | exact vi_ready (by with_reducible assumption) | exact vi_run (by with_reducible assumption) (by with_reducible assumption) | exact vi_run (by with_reducible assumption) (vi_runner _) | exact vi_mTask (by with_reducible assumption) | exact vi_mThing (by with_reducible assumption) | exact vi_mdecl (by with_reducible assumption) | exact vi_mready (by with_reducible assumption)))
      refine va_iald hx hb hK hP 8 0 mw_8 rfl hi1 d_M_top_20 ?_
      refine W.eq (g2 := F0 m 21 ls [.int (st 8 ((6 * (nI i)) + p1).toNatClampNeg)]) rfl ?_
      refine lv_if_le (tgt := 43) hx hb d_M_top_21 (by decide) (fun hc2 => ?_) (fun hc2 => ?_)
      · have he := he.trans (if_pos hc2)
        refine lv_iload_n hx hb d_M_top_43 rfl (lv_at hl 2 rfl) ?_
        refine lv_istore_n hx hb d_M_top_44 rfl hl (by decide) rfl (fun ls hl => ?_)
        have hl : lv_has ls 4 [(2, .int v2), (0, .ref (ad 0)), (1, .int p1), (3, .int (nI i))] := hl
        refine lv_iinc (k := 3) (v := (nI (i + 1))) hx hb d_M_top_45 hl rfl (by first | rfl | (rw [nI_succ]; rfl)) (by decide) rfl (fun ls hl => ?_)
        have hl : lv_has ls 4 [(3, .int (nI (i + 1))), (2, .int v2), (0, .ref (ad 0)), (1, .int p1)] := hl
        refine lv_goto (tgt := 4) hx hb d_M_top_48 (by decide) ?_
        exact ih (i + 1) v2 ls (by omega) (lv_sub hl [2, 3, 1, 0] rfl) he
      · have he := he.trans (if_neg hc2)
        refine lv_aload_n hx hb d_M_top_24 rfl (lv_at hl 0 rfl) ?_
        refine va_get (D := D) (ci := 4) (v := .ref (ad 1)) (C := R_M) (T := F_M) (N := 18) hx hb hts in_M hown hK hP 0 mw_0 rfl 4 (by decide) (hts _ k_438) (fun _ h9 => h9) rfl d_M_top_25 ?_
        refine lv_iload_n hx hb d_M_top_28 rfl (lv_at hl 3 rfl) ?_
        have hi3 : vp_in (nI i) 8 := (vp_in_nI (by omega) (by decide))
        refine va_iald hx hb hK hP 1 0 mw_1 rfl hi3 d_M_top_29 ?_
        rw [show (nI i).toNatClampNeg = i from nI_clamp (by omega)]
        refine W.eq (g2 := F0 m 30 ls [.int (st 1 i)]) rfl ?_
        refine lv_iload_n hx hb d_M_top_30 rfl (lv_at hl 2 rfl) ?_
        refine lv_icmp_le (tgt := 43) hx hb d_M_top_31 (by decide) (fun hc4 => ?_) (fun hc4 => ?_)
        · have he := he.trans (if_pos hc4)
          refine lv_iload_n hx hb d_M_top_43 rfl (lv_at hl 2 rfl) ?_
          refine lv_istore_n hx hb d_M_top_44 rfl hl (by decide) rfl (fun ls hl => ?_)
          have hl : lv_has ls 4 [(2, .int v2), (0, .ref (ad 0)), (1, .int p1), (3, .int (nI i))] := hl
          refine lv_iinc (k := 3) (v := (nI (i + 1))) hx hb d_M_top_45 hl rfl (by first | rfl | (rw [nI_succ]; rfl)) (by decide) rfl (fun ls hl => ?_)
          have hl : lv_has ls 4 [(3, .int (nI (i + 1))), (2, .int v2), (0, .ref (ad 0)), (1, .int p1)] := hl
          refine lv_goto (tgt := 4) hx hb d_M_top_48 (by decide) ?_
          exact ih (i + 1) v2 ls (by omega) (lv_sub hl [2, 3, 1, 0] rfl) he
        · have he := he.trans (if_neg hc4)
          refine lv_aload_n hx hb d_M_top_34 rfl (lv_at hl 0 rfl) ?_
          refine va_get (D := D) (ci := 4) (v := .ref (ad 1)) (C := R_M) (T := F_M) (N := 18) hx hb hts in_M hown hK hP 0 mw_0 rfl 4 (by decide) (hts _ k_438) (fun _ h9 => h9) rfl d_M_top_35 ?_
          refine lv_iload_n hx hb d_M_top_38 rfl (lv_at hl 3 rfl) ?_
          have hi5 : vp_in (nI i) 8 := (vp_in_nI (by omega) (by decide))
          refine va_iald hx hb hK hP 1 0 mw_1 rfl hi5 d_M_top_39 ?_
          rw [show (nI i).toNatClampNeg = i from nI_clamp (by omega)]
          refine W.eq (g2 := F0 m 40 ls [.int (st 1 i)]) rfl ?_
          refine lv_goto (tgt := 44) hx hb d_M_top_40 (by decide) ?_
          refine lv_istore_n hx hb d_M_top_44 rfl hl (by decide) rfl (fun ls hl => ?_)
          have hl : lv_has ls 4 [(2, .int (st 1 i)), (0, .ref (ad 0)), (1, .int p1), (3, .int (nI i))] := hl
          refine lv_iinc (k := 3) (v := (nI (i + 1))) hx hb d_M_top_45 hl rfl (by first | rfl | (rw [nI_succ]; rfl)) (by decide) rfl (fun ls hl => ?_)
          have hl : lv_has ls 4 [(3, .int (nI (i + 1))), (2, .int (st 1 i)), (0, .ref (ad 0)), (1, .int p1)] := hl
          refine lv_goto (tgt := 4) hx hb d_M_top_48 (by decide) ?_
          exact ih (i + 1) (st 1 i) ls (by omega) (lv_sub hl [2, 3, 1, 0] rfl) he
  have he := f_M_top.eq_1 st p1
  refine lv_iconst (v := 0) hx hb d_M_top_0 (by decide) ?_
  refine lv_istore_n hx hb d_M_top_1 rfl hl (by decide) rfl (fun ls hl => ?_)
  have hl : lv_has ls 4 [(2, .int 0), (0, .ref (ad 0)), (1, .int p1)] := hl
  refine lv_iconst (v := 0) hx hb d_M_top_2 (by decide) ?_
  refine lv_istore_n hx hb d_M_top_3 rfl hl (by decide) rfl (fun ls hl => ?_)
  have hl : lv_has ls 4 [(3, .int 0), (2, .int 0), (0, .ref (ad 0)), (1, .int p1)] := hl
  exact L4 8 0 0 ls (by first | decide | omega) (lv_sub hl [2, 3, 1, 0] rfl) he
set_option maxHeartbeats 4000000 in
set_option maxRecDepth 100000 in
theorem c_M_latest (l : Launch) (D : va_G) (cI cT cH : ClassId) (ad : Nat → Nat) (st : St) (p1 : Int32) : Met l y_M_latest w_M_latest { frames := 0, cells := 0, slots := 0, locals := 0 } (va_Pc [.ref (ad 0), .int p1] (gW D cI cT cH (mw cI ad st))) (QcRead (f_M_latest st p1)) 0 0 (fun _ => False) := by
  refine Met.ofW (cc := b_M_latest) (maxL := 4) (ret := (some .int)) (by decide +kernel) rfl ?_
  intro p e s m args below meth c s₁ B hml hv
  obtain ⟨rfl, hP, hK, hN⟩ := hv
  have hx := B.exec
  have hb := B.bytes
  have hr := B.returns
  have hlocks := B.notSynchronized
  have hts0 := atoms_spec (ws := w_M_latest) B.pre
  have hts : ∀ w ∈ TT, w.before [.ref (ad 0), .int p1].toArray s = true := fun w h => hts0 w (List.mem_cons_of_mem _ h)
  have hown : s.vm.findClass R_M = some m.cls := findClass_of_methodNamed B.named
  have hl := lv_entry ([.ref (ad 0), .int p1]) (n := 4) (Nat.le_of_ble_eq_true rfl)
  rw [lg_entry_eq]
  generalize (lg_sl ([.ref (ad 0), .int p1]) ++ List.replicate (4 - (lg_sl ([.ref (ad 0), .int p1])).length) Slot.unset).toArray = ls at hl ⊢
  have hl : lv_has ls 4 [(0, .ref (ad 0)), (1, .int p1)] := hl
  have L4 : ∀ (n i : Nat) (v2 : Int32) (ls : Array Slot), i + n = 6 → lv_has ls 4 [(0, .ref (ad 0)), (1, .int p1), (2, .int v2), (3, .int (nI i))] → (v2 = (-1) ∨ vp_in v2 6) → f_M_latest st p1 = f_M_latest_L4 n i st p1 v2 → W p l e (headSpec w_M_latest { frames := 0, cells := 0, slots := 0, locals := 0 }).room s m [.ref (ad 0), .int p1].toArray below meth c s.heap [] 0 0 (MQ below (QcRead (f_M_latest st p1)) [.ref (ad 0), .int p1].toArray s 0 0 (fun _ => False)) (F0 m 4 ls []) := by
    intro n
    induction n with
    | zero =>
      intro i v2 ls hcnt hl g0 he
      have hz : i = 6 := by omega
      subst hz
      rw [f_M_latest_L4] at he
      refine lv_iload_n hx hb d_M_latest_4 rfl (lv_at hl 3 rfl) ?_
      refine lv_bipush (v := 6) hx hb d_M_latest_5 (by decide) ?_
      refine lv_icmp_ge (tgt := 52) hx hb d_M_latest_7 (by decide) (fun _ => ?_) (fun h9 => absurd (by decide) h9)
      refine lv_iload_n hx hb d_M_latest_52 rfl (lv_at hl 2 rfl) ?_
      exact W.iret (v := v2) hx hb hr (fun t ht _ => ⟨by rw [he], ht⟩) (fun _ h => nomatch h) d_M_latest_53
    | succ n ih =>
      intro i v2 ls hcnt hl g0 he
      have hi8 : i < 6 := by omega
      rw [f_M_latest_L4] at he
      refine lv_iload_n hx hb d_M_latest_4 rfl (lv_at hl 3 rfl) ?_
      refine lv_bipush (v := 6) hx hb d_M_latest_5 (by decide) ?_
      refine lv_icmp_ge (tgt := 52) hx hb d_M_latest_7 (by decide) (fun h9 => absurd h9 (nlt_6 hi8)) (fun _ => ?_)
      refine lv_aload_n hx hb d_M_latest_10 rfl (lv_at hl 0 rfl) ?_
      refine va_get (D := D) (ci := 4) (v := .ref (ad 9)) (C := R_M) (T := F_M) (N := 18) hx hb hts in_M hown hK hP 0 mw_0 rfl 12 (by decide) (hts _ k_446) (fun _ h9 => h9) rfl d_M_latest_11 ?_
      refine lv_iload_n hx hb d_M_latest_14 rfl (lv_at hl 3 rfl) ?_
      have hi1 : vp_in (nI i) 6 := (vp_in_nI (by omega) (by decide))
      refine va_iald hx hb hK hP 9 0 mw_9 rfl hi1 d_M_latest_15 ?_
      rw [show (nI i).toNatClampNeg = i from nI_clamp (by omega)]
      refine W.eq (g2 := F0 m 16 ls [.int (st 9 i)]) rfl ?_
      refine lv_iload_n hx hb d_M_latest_16 rfl (lv_at hl 1 rfl) ?_
      refine lv_icmp_ne (tgt := 44) hx hb d_M_latest_17 (by decide) (fun hc2 => ?_) (fun hc2 => ?_)
      · have he := he.trans (if_neg hc2)
        refine lv_iload_n hx hb d_M_latest_44 rfl (lv_at hl 2 rfl) ?_
        refine lv_istore_n hx hb d_M_latest_45 rfl hl (by decide) rfl (fun ls hl => ?_)
        have hl : lv_has ls 4 [(2, .int v2), (0, .ref (ad 0)), (1, .int p1), (3, .int (nI i))] := hl
        refine lv_iinc (k := 3) (v := (nI (i + 1))) hx hb d_M_latest_46 hl rfl (by first | rfl | (rw [nI_succ]; rfl)) (by decide) rfl (fun ls hl => ?_)
        have hl : lv_has ls 4 [(3, .int (nI (i + 1))), (2, .int v2), (0, .ref (ad 0)), (1, .int p1)] := hl
        refine lv_goto (tgt := 4) hx hb d_M_latest_49 (by decide) ?_
        exact ih (i + 1) v2 ls (by omega) (lv_sub hl [2, 3, 1, 0] rfl) (by first | with_reducible assumption | exact Or.inl rfl | exact (fun h9 => absurd h9 (by decide)) | exact (fun h9 => absurd rfl h9) | exact vi_runner _ | exact Or.inr (vp_in_nI (by omega) (by decide)) | exact Or.inr (by first | with_reducible assumption | exact vi_isIn7 (by with_reducible assumption) | exact vi_isThing (by with_reducible assumption) | exact vi_decl (by with_reducible assumption) | exact vi_ready (by with_reducible assumption) | exact vi_run (by with_reducible assumption) (by with_reducible assumption) | exact vi_run (by with_reducible assumption) (vi_runner _) | exact vi_mTask (by with_reducible assumption) | exact vi_mThing (by with_reducible assumption) | exact vi_mdecl (by with_reducible assumption) | exact vi_mready (by with_reducible assumption)) | exact (fun _ => ⟨(by first | with_reducible assumption | exact vi_isIn7 (by with_reducible assumption) | exact vi_isThing (by with_reducible assumption) | exact vi_decl (by with_reducible assumption) | exact vi_ready (by with_reducible assumption) | exact vi_run (by with_reducible assumption) (by with_reducible assumption) | exact vi_run (by with_reducible assumption) (vi_runner _) | exact vi_mTask (by with_reducible assumption) | exact vi_mThing (by with_reducible assumption) | exact vi_mdecl (by with_reducible assumption) | exact vi_mready (by with_reducible assumption)), (by first | with_reducible assumption | exact vi_isIn7 (by with_reducible assumption) | exact vi_isThing (by with_reducible assumption) | exact vi_decl (by with_reducible assumption) | exact vi_ready (by with_reducible assumption) | exact vi_run (by with_reducible assumption) (by with_reducible assumption) | exact vi_run (by with_reducible assumption) (vi_runner _) | exact vi_mTask (by with_reducible assumption) | exact vi_mThing (by with_reducible assumption) | exact vi_mdecl (by with_reducible assumption) | exact vi_mready (by with_reducible assumption))⟩) | exact (fun _ => ⟨vi_latest (by with_reducible assumption) (by with_reducible assumption), vi_run (by with_reducible assumption) (by with_reducible assumption)⟩) | exact (fun _ => (by with_reducible assumption : ¬ v4 = 0 → _) (by with_reducible assumption)) | exact (fun _ => (by first | with_reducible assumption | exact vi_isIn7 (by with_reducible assumption) | exact vi_isThing (by with_reducible assumption) | exact vi_decl (by with_reducible assumption) | exact vi_ready (by with_reducible assumption) | exact vi_run (by with_reducible assumption) (by with_reducible assumption) | exact vi_run (by with_reducible assumption) (vi_runner _) | exact vi_mTask (by with_reducible assumption) | exact vi_mThing (by with_reducible assumption) | exact vi_mdecl (by with_reducible assumption) | exact vi_mready (by with_reducible assumption))) | exact (by first | with_reducible assumption | exact vi_isIn7 (by with_reducible assumption) | exact vi_isThing (by with_reducible assumption) | exact vi_decl (by with_reducible assumption) | exact vi_ready (by with_reducible assumption) | exact vi_run (by with_reducible assumption) (by with_reducible assumption) | exact vi_run (by with_reducible assumption) (vi_runner _) | exact vi_mTask (by with_reducible assumption) | exact vi_mThing (by with_reducible assumption) | exact vi_mdecl (by with_reducible assumption) | exact vi_mready (by with_reducible assumption))) he
      · have he := he.trans (if_pos hc2)
        refine lv_iload_n hx hb d_M_latest_20 rfl (lv_at hl 2 rfl) ?_
        refine lv_iconst (v := (-1)) hx hb d_M_latest_21 (by decide) ?_
        refine lv_icmp_eq (tgt := 40) hx hb d_M_latest_22 (by decide) (fun hc3 => ?_) (fun hc3 => ?_)
        · have he := he.trans (if_pos hc3)
          refine lv_iload_n hx hb d_M_latest_40 rfl (lv_at hl 3 rfl) ?_
          refine lv_goto (tgt := 45) hx hb d_M_latest_41 (by decide) ?_
          refine lv_istore_n hx hb d_M_latest_45 rfl hl (by decide) rfl (fun ls hl => ?_)
          have hl : lv_has ls 4 [(2, .int (nI i)), (0, .ref (ad 0)), (1, .int p1), (3, .int (nI i))] := hl
          refine lv_iinc (k := 3) (v := (nI (i + 1))) hx hb d_M_latest_46 hl rfl (by first | rfl | (rw [nI_succ]; rfl)) (by decide) rfl (fun ls hl => ?_)
          have hl : lv_has ls 4 [(3, .int (nI (i + 1))), (2, .int (nI i)), (0, .ref (ad 0)), (1, .int p1)] := hl
          refine lv_goto (tgt := 4) hx hb d_M_latest_49 (by decide) ?_
          exact ih (i + 1) (nI i) ls (by omega) (lv_sub hl [2, 3, 1, 0] rfl) (by first | with_reducible assumption | exact Or.inl rfl | exact (fun h9 => absurd h9 (by decide)) | exact (fun h9 => absurd rfl h9) | exact vi_runner _ | exact Or.inr (vp_in_nI (by omega) (by decide)) | exact Or.inr (by first | with_reducible assumption | exact vi_isIn7 (by with_reducible assumption) | exact vi_isThing (by with_reducible assumption) | exact vi_decl (by with_reducible assumption) | exact vi_ready (by with_reducible assumption) | exact vi_run (by with_reducible assumption) (by with_reducible assumption) | exact vi_run (by with_reducible assumption) (vi_runner _) | exact vi_mTask (by with_reducible assumption) | exact vi_mThing (by with_reducible assumption) | exact vi_mdecl (by with_reducible assumption) | exact vi_mready (by with_reducible assumption)) | exact (fun _ => ⟨(by first | with_reducible assumption | exact vi_isIn7 (by with_reducible assumption) | exact vi_isThing (by with_reducible assumption) | exact vi_decl (by with_reducible assumption) | exact vi_ready (by with_reducible assumption) | exact vi_run (by with_reducible assumption) (by with_reducible assumption) | exact vi_run (by with_reducible assumption) (vi_runner _) | exact vi_mTask (by with_reducible assumption) | exact vi_mThing (by with_reducible assumption) | exact vi_mdecl (by with_reducible assumption) | exact vi_mready (by with_reducible assumption)), (by first | with_reducible assumption | exact vi_isIn7 (by with_reducible assumption) | exact vi_isThing (by with_reducible assumption) | exact vi_decl (by with_reducible assumption) | exact vi_ready (by with_reducible assumption) | exact vi_run (by with_reducible assumption) (by with_reducible assumption) | exact vi_run (by with_reducible assumption) (vi_runner _) | exact vi_mTask (by with_reducible assumption) | exact vi_mThing (by with_reducible assumption) | exact vi_mdecl (by with_reducible assumption) | exact vi_mready (by with_reducible assumption))⟩) | exact (fun _ => ⟨vi_latest (by with_reducible assumption) (by with_reducible assumption), vi_run (by with_reducible assumption) (by with_reducible assumption)⟩) | exact (fun _ => (by with_reducible assumption : ¬ v4 = 0 → _) (by with_reducible assumption)) | exact (fun _ => (by first | with_reducible assumption | exact vi_isIn7 (by with_reducible assumption) | exact vi_isThing (by with_reducible assumption) | exact vi_decl (by with_reducible assumption) | exact vi_ready (by with_reducible assumption) | exact vi_run (by with_reducible assumption) (by with_reducible assumption) | exact vi_run (by with_reducible assumption) (vi_runner _) | exact vi_mTask (by with_reducible assumption) | exact vi_mThing (by with_reducible assumption) | exact vi_mdecl (by with_reducible assumption) | exact vi_mready (by with_reducible assumption))) | exact (by first | with_reducible assumption | exact vi_isIn7 (by with_reducible assumption) | exact vi_isThing (by with_reducible assumption) | exact vi_decl (by with_reducible assumption) | exact vi_ready (by with_reducible assumption) | exact vi_run (by with_reducible assumption) (by with_reducible assumption) | exact vi_run (by with_reducible assumption) (vi_runner _) | exact vi_mTask (by with_reducible assumption) | exact vi_mThing (by with_reducible assumption) | exact vi_mdecl (by with_reducible assumption) | exact vi_mready (by with_reducible assumption))) he
        · have he := he.trans (if_neg hc3)
          refine lv_aload_n hx hb d_M_latest_25 rfl (lv_at hl 0 rfl) ?_
          refine va_get (D := D) (ci := 4) (v := .ref (ad 11)) (C := R_M) (T := F_M) (N := 18) hx hb hts in_M hown hK hP 0 mw_0 rfl 14 (by decide) (hts _ k_448) (fun _ h9 => h9) rfl d_M_latest_26 ?_
          refine lv_iload_n hx hb d_M_latest_29 rfl (lv_at hl 3 rfl) ?_
          have hi4 : vp_in (nI i) 6 := (vp_in_nI (by omega) (by decide))
          refine va_iald hx hb hK hP 11 0 mw_11 rfl hi4 d_M_latest_30 ?_
          rw [show (nI i).toNatClampNeg = i from nI_clamp (by omega)]
          refine W.eq (g2 := F0 m 31 ls [.int (st 11 i)]) rfl ?_
          refine lv_aload_n hx hb d_M_latest_31 rfl (lv_at hl 0 rfl) ?_
          refine va_get (D := D) (ci := 4) (v := .ref (ad 11)) (C := R_M) (T := F_M) (N := 18) hx hb hts in_M hown hK hP 0 mw_0 rfl 14 (by decide) (hts _ k_448) (fun _ h9 => h9) rfl d_M_latest_32 ?_
          refine lv_iload_n hx hb d_M_latest_35 rfl (lv_at hl 2 rfl) ?_
          have hi5 : vp_in v2 6 := (by first | with_reducible assumption | exact vi_isIn7 (by with_reducible assumption) | exact vi_isThing (by with_reducible assumption) | exact vi_decl (by with_reducible assumption) | exact vi_ready (by with_reducible assumption) | exact vi_run (by with_reducible assumption) (by with_reducible assumption) | exact vi_run (by with_reducible assumption) (vi_runner _) | exact vi_mTask (by with_reducible assumption) | exact vi_mThing (by with_reducible assumption) | exact vi_mdecl (by with_reducible assumption) | exact vi_mready (by with_reducible assumption))
          refine va_iald hx hb hK hP 11 0 mw_11 rfl hi5 d_M_latest_36 ?_
          refine W.eq (g2 := F0 m 37 ls [.int (st 11 v2.toNatClampNeg), .int (st 11 i)]) rfl ?_
          refine lv_icmp_le (tgt := 44) hx hb d_M_latest_37 (by decide) (fun hc6 => ?_) (fun hc6 => ?_)
          · have he := he.trans (if_pos hc6)
            refine lv_iload_n hx hb d_M_latest_44 rfl (lv_at hl 2 rfl) ?_
            refine lv_istore_n hx hb d_M_latest_45 rfl hl (by decide) rfl (fun ls hl => ?_)
            have hl : lv_has ls 4 [(2, .int v2), (0, .ref (ad 0)), (1, .int p1), (3, .int (nI i))] := hl
            refine lv_iinc (k := 3) (v := (nI (i + 1))) hx hb d_M_latest_46 hl rfl (by first | rfl | (rw [nI_succ]; rfl)) (by decide) rfl (fun ls hl => ?_)
            have hl : lv_has ls 4 [(3, .int (nI (i + 1))), (2, .int v2), (0, .ref (ad 0)), (1, .int p1)] := hl
            refine lv_goto (tgt := 4) hx hb d_M_latest_49 (by decide) ?_
            exact ih (i + 1) v2 ls (by omega) (lv_sub hl [2, 3, 1, 0] rfl) (by first | with_reducible assumption | exact Or.inl rfl | exact (fun h9 => absurd h9 (by decide)) | exact (fun h9 => absurd rfl h9) | exact vi_runner _ | exact Or.inr (vp_in_nI (by omega) (by decide)) | exact Or.inr (by first | with_reducible assumption | exact vi_isIn7 (by with_reducible assumption) | exact vi_isThing (by with_reducible assumption) | exact vi_decl (by with_reducible assumption) | exact vi_ready (by with_reducible assumption) | exact vi_run (by with_reducible assumption) (by with_reducible assumption) | exact vi_run (by with_reducible assumption) (vi_runner _) | exact vi_mTask (by with_reducible assumption) | exact vi_mThing (by with_reducible assumption) | exact vi_mdecl (by with_reducible assumption) | exact vi_mready (by with_reducible assumption)) | exact (fun _ => ⟨(by first | with_reducible assumption | exact vi_isIn7 (by with_reducible assumption) | exact vi_isThing (by with_reducible assumption) | exact vi_decl (by with_reducible assumption) | exact vi_ready (by with_reducible assumption) | exact vi_run (by with_reducible assumption) (by with_reducible assumption) | exact vi_run (by with_reducible assumption) (vi_runner _) | exact vi_mTask (by with_reducible assumption) | exact vi_mThing (by with_reducible assumption) | exact vi_mdecl (by with_reducible assumption) | exact vi_mready (by with_reducible assumption)), (by first | with_reducible assumption | exact vi_isIn7 (by with_reducible assumption) | exact vi_isThing (by with_reducible assumption) | exact vi_decl (by with_reducible assumption) | exact vi_ready (by with_reducible assumption) | exact vi_run (by with_reducible assumption) (by with_reducible assumption) | exact vi_run (by with_reducible assumption) (vi_runner _) | exact vi_mTask (by with_reducible assumption) | exact vi_mThing (by with_reducible assumption) | exact vi_mdecl (by with_reducible assumption) | exact vi_mready (by with_reducible assumption))⟩) | exact (fun _ => ⟨vi_latest (by with_reducible assumption) (by with_reducible assumption), vi_run (by with_reducible assumption) (by with_reducible assumption)⟩) | exact (fun _ => (by with_reducible assumption : ¬ v4 = 0 → _) (by with_reducible assumption)) | exact (fun _ => (by first | with_reducible assumption | exact vi_isIn7 (by with_reducible assumption) | exact vi_isThing (by with_reducible assumption) | exact vi_decl (by with_reducible assumption) | exact vi_ready (by with_reducible assumption) | exact vi_run (by with_reducible assumption) (by with_reducible assumption) | exact vi_run (by with_reducible assumption) (vi_runner _) | exact vi_mTask (by with_reducible assumption) | exact vi_mThing (by with_reducible assumption) | exact vi_mdecl (by with_reducible assumption) | exact vi_mready (by with_reducible assumption))) | exact (by first | with_reducible assumption | exact vi_isIn7 (by with_reducible assumption) | exact vi_isThing (by with_reducible assumption) | exact vi_decl (by with_reducible assumption) | exact vi_ready (by with_reducible assumption) | exact vi_run (by with_reducible assumption) (by with_reducible assumption) | exact vi_run (by with_reducible assumption) (vi_runner _) | exact vi_mTask (by with_reducible assumption) | exact vi_mThing (by with_reducible assumption) | exact vi_mdecl (by with_reducible assumption) | exact vi_mready (by with_reducible assumption))) he
          · have he := he.trans (if_neg hc6)
            refine lv_iload_n hx hb d_M_latest_40 rfl (lv_at hl 3 rfl) ?_
            refine lv_goto (tgt := 45) hx hb d_M_latest_41 (by decide) ?_
            refine lv_istore_n hx hb d_M_latest_45 rfl hl (by decide) rfl (fun ls hl => ?_)
            have hl : lv_has ls 4 [(2, .int (nI i)), (0, .ref (ad 0)), (1, .int p1), (3, .int (nI i))] := hl
            refine lv_iinc (k := 3) (v := (nI (i + 1))) hx hb d_M_latest_46 hl rfl (by first | rfl | (rw [nI_succ]; rfl)) (by decide) rfl (fun ls hl => ?_)
            have hl : lv_has ls 4 [(3, .int (nI (i + 1))), (2, .int (nI i)), (0, .ref (ad 0)), (1, .int p1)] := hl
            refine lv_goto (tgt := 4) hx hb d_M_latest_49 (by decide) ?_
            exact ih (i + 1) (nI i) ls (by omega) (lv_sub hl [2, 3, 1, 0] rfl) (by first | with_reducible assumption | exact Or.inl rfl | exact (fun h9 => absurd h9 (by decide)) | exact (fun h9 => absurd rfl h9) | exact vi_runner _ | exact Or.inr (vp_in_nI (by omega) (by decide)) | exact Or.inr (by first | with_reducible assumption | exact vi_isIn7 (by with_reducible assumption) | exact vi_isThing (by with_reducible assumption) | exact vi_decl (by with_reducible assumption) | exact vi_ready (by with_reducible assumption) | exact vi_run (by with_reducible assumption) (by with_reducible assumption) | exact vi_run (by with_reducible assumption) (vi_runner _) | exact vi_mTask (by with_reducible assumption) | exact vi_mThing (by with_reducible assumption) | exact vi_mdecl (by with_reducible assumption) | exact vi_mready (by with_reducible assumption)) | exact (fun _ => ⟨(by first | with_reducible assumption | exact vi_isIn7 (by with_reducible assumption) | exact vi_isThing (by with_reducible assumption) | exact vi_decl (by with_reducible assumption) | exact vi_ready (by with_reducible assumption) | exact vi_run (by with_reducible assumption) (by with_reducible assumption) | exact vi_run (by with_reducible assumption) (vi_runner _) | exact vi_mTask (by with_reducible assumption) | exact vi_mThing (by with_reducible assumption) | exact vi_mdecl (by with_reducible assumption) | exact vi_mready (by with_reducible assumption)), (by first | with_reducible assumption | exact vi_isIn7 (by with_reducible assumption) | exact vi_isThing (by with_reducible assumption) | exact vi_decl (by with_reducible assumption) | exact vi_ready (by with_reducible assumption) | exact vi_run (by with_reducible assumption) (by with_reducible assumption) | exact vi_run (by with_reducible assumption) (vi_runner _) | exact vi_mTask (by with_reducible assumption) | exact vi_mThing (by with_reducible assumption) | exact vi_mdecl (by with_reducible assumption) | exact vi_mready (by with_reducible assumption))⟩) | exact (fun _ => ⟨vi_latest (by with_reducible assumption) (by with_reducible assumption), vi_run (by with_reducible assumption) (by with_reducible assumption)⟩) | exact (fun _ => (by with_reducible assumption : ¬ v4 = 0 → _) (by with_reducible assumption)) | exact (fun _ => (by first | with_reducible assumption | exact vi_isIn7 (by with_reducible assumption) | exact vi_isThing (by with_reducible assumption) | exact vi_decl (by with_reducible assumption) | exact vi_ready (by with_reducible assumption) | exact vi_run (by with_reducible assumption) (by with_reducible assumption) | exact vi_run (by with_reducible assumption) (vi_runner _) | exact vi_mTask (by with_reducible assumption) | exact vi_mThing (by with_reducible assumption) | exact vi_mdecl (by with_reducible assumption) | exact vi_mready (by with_reducible assumption))) | exact (by first | with_reducible assumption | exact vi_isIn7 (by with_reducible assumption) | exact vi_isThing (by with_reducible assumption) | exact vi_decl (by with_reducible assumption) | exact vi_ready (by with_reducible assumption) | exact vi_run (by with_reducible assumption) (by with_reducible assumption) | exact vi_run (by with_reducible assumption) (vi_runner _) | exact vi_mTask (by with_reducible assumption) | exact vi_mThing (by with_reducible assumption) | exact vi_mdecl (by with_reducible assumption) | exact vi_mready (by with_reducible assumption))) he
  have he := f_M_latest.eq_1 st p1
  refine lv_iconst (v := (-1)) hx hb d_M_latest_0 (by decide) ?_
  refine lv_istore_n hx hb d_M_latest_1 rfl hl (by decide) rfl (fun ls hl => ?_)
  have hl : lv_has ls 4 [(2, .int (-1)), (0, .ref (ad 0)), (1, .int p1)] := hl
  refine lv_iconst (v := 0) hx hb d_M_latest_2 (by decide) ?_
  refine lv_istore_n hx hb d_M_latest_3 rfl hl (by decide) rfl (fun ls hl => ?_)
  have hl : lv_has ls 4 [(3, .int 0), (2, .int (-1)), (0, .ref (ad 0)), (1, .int p1)] := hl
  exact L4 6 0 (-1) ls (by first | decide | omega) (lv_sub hl [2, 3, 1, 0] rfl) (by first | with_reducible assumption | exact Or.inl rfl | exact (fun h9 => absurd h9 (by decide)) | exact (fun h9 => absurd rfl h9) | exact vi_runner _ | exact Or.inr (vp_in_nI (by omega) (by decide)) | exact Or.inr (by first | with_reducible assumption | exact vi_isIn7 (by with_reducible assumption) | exact vi_isThing (by with_reducible assumption) | exact vi_decl (by with_reducible assumption) | exact vi_ready (by with_reducible assumption) | exact vi_run (by with_reducible assumption) (by with_reducible assumption) | exact vi_run (by with_reducible assumption) (vi_runner _) | exact vi_mTask (by with_reducible assumption) | exact vi_mThing (by with_reducible assumption) | exact vi_mdecl (by with_reducible assumption) | exact vi_mready (by with_reducible assumption)) | exact (fun _ => ⟨(by first | with_reducible assumption | exact vi_isIn7 (by with_reducible assumption) | exact vi_isThing (by with_reducible assumption) | exact vi_decl (by with_reducible assumption) | exact vi_ready (by with_reducible assumption) | exact vi_run (by with_reducible assumption) (by with_reducible assumption) | exact vi_run (by with_reducible assumption) (vi_runner _) | exact vi_mTask (by with_reducible assumption) | exact vi_mThing (by with_reducible assumption) | exact vi_mdecl (by with_reducible assumption) | exact vi_mready (by with_reducible assumption)), (by first | with_reducible assumption | exact vi_isIn7 (by with_reducible assumption) | exact vi_isThing (by with_reducible assumption) | exact vi_decl (by with_reducible assumption) | exact vi_ready (by with_reducible assumption) | exact vi_run (by with_reducible assumption) (by with_reducible assumption) | exact vi_run (by with_reducible assumption) (vi_runner _) | exact vi_mTask (by with_reducible assumption) | exact vi_mThing (by with_reducible assumption) | exact vi_mdecl (by with_reducible assumption) | exact vi_mready (by with_reducible assumption))⟩) | exact (fun _ => ⟨vi_latest (by with_reducible assumption) (by with_reducible assumption), vi_run (by with_reducible assumption) (by with_reducible assumption)⟩) | exact (fun _ => (by with_reducible assumption : ¬ v4 = 0 → _) (by with_reducible assumption)) | exact (fun _ => (by first | with_reducible assumption | exact vi_isIn7 (by with_reducible assumption) | exact vi_isThing (by with_reducible assumption) | exact vi_decl (by with_reducible assumption) | exact vi_ready (by with_reducible assumption) | exact vi_run (by with_reducible assumption) (by with_reducible assumption) | exact vi_run (by with_reducible assumption) (vi_runner _) | exact vi_mTask (by with_reducible assumption) | exact vi_mThing (by with_reducible assumption) | exact vi_mdecl (by with_reducible assumption) | exact vi_mready (by with_reducible assumption))) | exact (by first | with_reducible assumption | exact vi_isIn7 (by with_reducible assumption) | exact vi_isThing (by with_reducible assumption) | exact vi_decl (by with_reducible assumption) | exact vi_ready (by with_reducible assumption) | exact vi_run (by with_reducible assumption) (by with_reducible assumption) | exact vi_run (by with_reducible assumption) (vi_runner _) | exact vi_mTask (by with_reducible assumption) | exact vi_mThing (by with_reducible assumption) | exact vi_mdecl (by with_reducible assumption) | exact vi_mready (by with_reducible assumption))) he
end
section
set_option maxHeartbeats 4000000 in
set_option maxRecDepth 100000 in
theorem c_M_declare (l : Launch) (D : va_G) (cI cT cH : ClassId) (ad : Nat → Nat) (st : St) (p1 : Int32) (p2 : Int32) (p3 : Int32) (p4 : Int32) (hI : ∀ i j, i < 13 → j < 13 → ad i = ad j → i = j) : Met l y_M_declare w_M_declare { frames := 2, cells := 0, slots := 0, locals := 41 } (va_Pc [.ref (ad 0), .int p1, .int p2, .int p3, .int p4] (gW D cI cT cH (mw cI ad st))) (qV D (mw cI ad (f_M_declare st p1 p2 p3 p4)) (inA ad 13)) 0 0 (inA ad 13) := by
  refine Met.ofW (cc := b_M_declare) (maxL := 6) (ret := none) (by decide +kernel) rfl ?_
  intro p e s m args below meth c s₁ B hml hv
  obtain ⟨rfl, hP, hK, hN⟩ := hv
  have hx := B.exec
  have hb := B.bytes
  have hr := B.returns
  have hlocks := B.notSynchronized
  have hts0 := atoms_spec (ws := w_M_declare) B.pre
  have hts : ∀ w ∈ TT, w.before [.ref (ad 0), .int p1, .int p2, .int p3, .int p4].toArray s = true := fun w h => hts0 w (List.mem_cons_of_mem _ h)
  have hown : s.vm.findClass R_M = some m.cls := findClass_of_methodNamed B.named
  have hS : va_S (inA ad 13) s.heap s.heap [] := va_S.rf
  have hl := lv_entry ([.ref (ad 0), .int p1, .int p2, .int p3, .int p4]) (n := 6) (Nat.le_of_ble_eq_true rfl)
  rw [lg_entry_eq]
  generalize (lg_sl ([.ref (ad 0), .int p1, .int p2, .int p3, .int p4]) ++ List.replicate (6 - (lg_sl ([.ref (ad 0), .int p1, .int p2, .int p3, .int p4])).length) Slot.unset).toArray = ls at hl ⊢
  have hl : lv_has ls 6 [(0, .ref (ad 0)), (1, .int p1), (2, .int p2), (3, .int p3), (4, .int p4)] := hl
  have J71 : ∀ (x1 : Int32) (v5 : Int32) (sl : St) (H : Heap) (locs : List Loc) (ls : Array Slot), lv_has ls 6 [(0, .ref (ad 0)), (1, .int p1), (2, .int p2), (3, .int p3), (4, .int p4), (5, .int v5)] → va_P D cls9 (mw cI ad sl) H → va_S (inA ad 13) s.heap H locs → (v5 = 0 → vp_in p1 8) → f_M_declare st p1 p2 p3 p4 = f_M_declare_B71 sl x1 p1 p2 p3 p4 v5 → W p l e (headSpec w_M_declare { frames := 2, cells := 0, slots := 0, locals := 41 }).room s m [.ref (ad 0), .int p1, .int p2, .int p3, .int p4].toArray below meth c H locs 0 0 (MQ below (qV D (mw cI ad (f_M_declare st p1 p2 p3 p4)) (inA ad 13)) [.ref (ad 0), .int p1, .int p2, .int p3, .int p4].toArray s 0 0 (inA ad 13)) (F0 m 71 ls [.int x1, .ref (ad 0)]) := by
    intro x1 v5 sl H locs ls hl hP hS g0 he
    rw [f_M_declare_B71] at he
    refine lv_iload hx hb d_M_declare_71 (lv_at hl 5 rfl) ?_
    refine wcI (As := [.int x1, .int v5]) (rest := []) (na := 2) (c_M_refuses l D cI cT cH ad sl x1 v5 hI) ⟨hx, hb, hml, hown, hts⟩ k_504 k_506 k_13 k_28 k_507 (by decide +kernel) (by decide) (by decide) hP hK hN (q0 := 0) (ci := 4) mw_0 rfl hS rfl hl.1 rfl (Nat.le_of_ble_eq_true rfl) d_M_declare_73 (fun H locs hP hS => ?_)
    generalize hw2 : (f_M_refuses sl x1 v5).2 = sw1 at hP he
    have g0 : v5 = 0 → vp_in p1 8 := by exact g0
    refine W.eq (g2 := F0 m 76 ls [.int ((f_M_refuses sl x1 v5).1)]) rfl ?_
    rw [f_M_declare_S76] at he
    refine lv_if_eq (tgt := 80) hx hb d_M_declare_76 (by decide) (fun hc3 => ?_) (fun hc3 => ?_)
    · have he := he.trans (if_pos hc3)
      have hf0 : vp_in p1 8 := g0 (vi_ref2 hc3)
      refine lv_aload_n hx hb d_M_declare_80 rfl (lv_at hl 0 rfl) ?_
      refine va_get (D := D) (ci := 4) (v := .ref (ad 1)) (C := R_M) (T := F_M) (N := 18) hx hb hts in_M hown hK hP 0 mw_0 rfl 4 (by decide) (hts _ k_438) (fun _ h9 => h9) rfl d_M_declare_81 ?_
      refine lv_iload_n hx hb d_M_declare_84 rfl (lv_at hl 1 rfl) ?_
      refine lv_iload_n hx hb d_M_declare_85 rfl (lv_at hl 2 rfl) ?_
      have hi4 : vp_in p1 8 := (by first | with_reducible assumption | exact vi_isIn7 (by with_reducible assumption) | exact vi_isThing (by with_reducible assumption) | exact vi_decl (by with_reducible assumption) | exact vi_ready (by with_reducible assumption) | exact vi_run (by with_reducible assumption) (by with_reducible assumption) | exact vi_run (by with_reducible assumption) (vi_runner _) | exact vi_mTask (by with_reducible assumption) | exact vi_mThing (by with_reducible assumption) | exact vi_mdecl (by with_reducible assumption) | exact vi_mready (by with_reducible assumption))
      refine va_iast hx hb hK hP (mw_D hI) hS 1 0 mw_1 rfl hi4 d_M_declare_86 (fun H locs hP _ hS => ?_)
      rw [mp_1] at hP
      generalize hw6 : wr sw1 1 p1.toNatClampNeg p2 = sw5 at hP he
      have g0 : v5 = 0 → vp_in p1 8 := by exact g0
      refine W.eq (g2 := F0 m 87 ls []) rfl ?_
      rw [f_M_declare_S87] at he
      refine lv_aload_n hx hb d_M_declare_87 rfl (lv_at hl 0 rfl) ?_
      refine va_get (D := D) (ci := 4) (v := .ref (ad 2)) (C := R_M) (T := F_M) (N := 18) hx hb hts in_M hown hK hP 0 mw_0 rfl 5 (by decide) (hts _ k_439) (fun _ h9 => h9) rfl d_M_declare_88 ?_
      refine lv_iload_n hx hb d_M_declare_91 rfl (lv_at hl 1 rfl) ?_
      refine lv_iload_n hx hb d_M_declare_92 rfl (lv_at hl 3 rfl) ?_
      have hi7 : vp_in p1 8 := (by first | with_reducible assumption | exact vi_isIn7 (by with_reducible assumption) | exact vi_isThing (by with_reducible assumption) | exact vi_decl (by with_reducible assumption) | exact vi_ready (by with_reducible assumption) | exact vi_run (by with_reducible assumption) (by with_reducible assumption) | exact vi_run (by with_reducible assumption) (vi_runner _) | exact vi_mTask (by with_reducible assumption) | exact vi_mThing (by with_reducible assumption) | exact vi_mdecl (by with_reducible assumption) | exact vi_mready (by with_reducible assumption))
      refine va_iast hx hb hK hP (mw_D hI) hS 2 0 mw_2 rfl hi7 d_M_declare_93 (fun H locs hP _ hS => ?_)
      rw [mp_2] at hP
      generalize hw9 : wr sw5 2 p1.toNatClampNeg p3 = sw8 at hP he
      have g0 : v5 = 0 → vp_in p1 8 := by exact g0
      refine W.eq (g2 := F0 m 94 ls []) rfl ?_
      rw [f_M_declare_S94] at he
      refine lv_aload_n hx hb d_M_declare_94 rfl (lv_at hl 0 rfl) ?_
      refine va_get (D := D) (ci := 4) (v := .ref (ad 3)) (C := R_M) (T := F_M) (N := 18) hx hb hts in_M hown hK hP 0 mw_0 rfl 6 (by decide) (hts _ k_440) (fun _ h9 => h9) rfl d_M_declare_95 ?_
      refine lv_iload_n hx hb d_M_declare_98 rfl (lv_at hl 1 rfl) ?_
      refine lv_iload hx hb d_M_declare_99 (lv_at hl 4 rfl) ?_
      have hi10 : vp_in p1 8 := (by first | with_reducible assumption | exact vi_isIn7 (by with_reducible assumption) | exact vi_isThing (by with_reducible assumption) | exact vi_decl (by with_reducible assumption) | exact vi_ready (by with_reducible assumption) | exact vi_run (by with_reducible assumption) (by with_reducible assumption) | exact vi_run (by with_reducible assumption) (vi_runner _) | exact vi_mTask (by with_reducible assumption) | exact vi_mThing (by with_reducible assumption) | exact vi_mdecl (by with_reducible assumption) | exact vi_mready (by with_reducible assumption))
      refine va_iast hx hb hK hP (mw_D hI) hS 3 0 mw_3 rfl hi10 d_M_declare_101 (fun H locs hP _ hS => ?_)
      rw [mp_3] at hP
      generalize hw12 : wr sw8 3 p1.toNatClampNeg p4 = sw11 at hP he
      have g0 : v5 = 0 → vp_in p1 8 := by exact g0
      refine W.eq (g2 := F0 m 102 ls []) rfl ?_
      rw [f_M_declare_S102] at he
      refine lv_aload_n hx hb d_M_declare_102 rfl (lv_at hl 0 rfl) ?_
      refine va_get (D := D) (ci := 4) (v := .ref (ad 5)) (C := R_M) (T := F_M) (N := 18) hx hb hts in_M hown hK hP 0 mw_0 rfl 8 (by decide) (hts _ k_442) (fun _ h9 => h9) rfl d_M_declare_103 ?_
      refine lv_iload_n hx hb d_M_declare_106 rfl (lv_at hl 1 rfl) ?_
      refine lv_iload_n hx hb d_M_declare_107 rfl (lv_at hl 2 rfl) ?_
      have hi13 : vp_in p1 8 := (by first | with_reducible assumption | exact vi_isIn7 (by with_reducible assumption) | exact vi_isThing (by with_reducible assumption) | exact vi_decl (by with_reducible assumption) | exact vi_ready (by with_reducible assumption) | exact vi_run (by with_reducible assumption) (by with_reducible assumption) | exact vi_run (by with_reducible assumption) (vi_runner _) | exact vi_mTask (by with_reducible assumption) | exact vi_mThing (by with_reducible assumption) | exact vi_mdecl (by with_reducible assumption) | exact vi_mready (by with_reducible assumption))
      refine va_iast hx hb hK hP (mw_D hI) hS 5 0 mw_5 rfl hi13 d_M_declare_108 (fun H locs hP _ hS => ?_)
      rw [mp_5] at hP
      generalize hw15 : wr sw11 5 p1.toNatClampNeg p2 = sw14 at hP he
      have g0 : v5 = 0 → vp_in p1 8 := by exact g0
      refine W.eq (g2 := F0 m 109 ls []) rfl ?_
      exact W.vret hx hb hr (fun t ht _ => ⟨⟨(), rfl, trivial, (by rw [he]; show va_P _ _ _ t.heap; rw [ht]; exact hP)⟩, hS.F ht⟩) hS.2.2 d_M_declare_109
    · have he := he.trans (if_neg hc3)
      exact W.vret hx hb hr (fun t ht _ => ⟨⟨(), rfl, trivial, (by rw [he]; show va_P _ _ _ t.heap; rw [ht]; exact hP)⟩, hS.F ht⟩) hS.2.2 d_M_declare_79
  have J66 : ∀ (v5 : Int32) (sl : St) (H : Heap) (locs : List Loc) (ls : Array Slot), lv_has ls 6 [(0, .ref (ad 0)), (1, .int p1), (2, .int p2), (3, .int p3), (4, .int p4), (5, .int v5)] → va_P D cls9 (mw cI ad sl) H → va_S (inA ad 13) s.heap H locs → (v5 = 0 → vp_in p1 8) → f_M_declare st p1 p2 p3 p4 = f_M_declare_B66 sl p1 p2 p3 p4 v5 → W p l e (headSpec w_M_declare { frames := 2, cells := 0, slots := 0, locals := 41 }).room s m [.ref (ad 0), .int p1, .int p2, .int p3, .int p4].toArray below meth c H locs 0 0 (MQ below (qV D (mw cI ad (f_M_declare st p1 p2 p3 p4)) (inA ad 13)) [.ref (ad 0), .int p1, .int p2, .int p3, .int p4].toArray s 0 0 (inA ad 13)) (F0 m 66 ls [.ref (ad 0)]) := by
    intro v5 sl H locs ls hl hP hS g0 he
    rw [f_M_declare_B66] at he
    refine lv_iconst (v := 1) hx hb d_M_declare_66 (by decide) ?_
    refine lv_goto (tgt := 71) hx hb d_M_declare_67 (by decide) ?_
    exact J71 1 v5 sl H locs ls (lv_sub hl [0, 1, 2, 3, 4, 5] rfl) hP hS (by first | with_reducible assumption | exact Or.inl rfl | exact (fun h9 => absurd h9 (by decide)) | exact (fun h9 => absurd rfl h9) | exact vi_runner _ | exact Or.inr (vp_in_nI (by omega) (by decide)) | exact Or.inr (by first | with_reducible assumption | exact vi_isIn7 (by with_reducible assumption) | exact vi_isThing (by with_reducible assumption) | exact vi_decl (by with_reducible assumption) | exact vi_ready (by with_reducible assumption) | exact vi_run (by with_reducible assumption) (by with_reducible assumption) | exact vi_run (by with_reducible assumption) (vi_runner _) | exact vi_mTask (by with_reducible assumption) | exact vi_mThing (by with_reducible assumption) | exact vi_mdecl (by with_reducible assumption) | exact vi_mready (by with_reducible assumption)) | exact (fun _ => ⟨(by first | with_reducible assumption | exact vi_isIn7 (by with_reducible assumption) | exact vi_isThing (by with_reducible assumption) | exact vi_decl (by with_reducible assumption) | exact vi_ready (by with_reducible assumption) | exact vi_run (by with_reducible assumption) (by with_reducible assumption) | exact vi_run (by with_reducible assumption) (vi_runner _) | exact vi_mTask (by with_reducible assumption) | exact vi_mThing (by with_reducible assumption) | exact vi_mdecl (by with_reducible assumption) | exact vi_mready (by with_reducible assumption)), (by first | with_reducible assumption | exact vi_isIn7 (by with_reducible assumption) | exact vi_isThing (by with_reducible assumption) | exact vi_decl (by with_reducible assumption) | exact vi_ready (by with_reducible assumption) | exact vi_run (by with_reducible assumption) (by with_reducible assumption) | exact vi_run (by with_reducible assumption) (vi_runner _) | exact vi_mTask (by with_reducible assumption) | exact vi_mThing (by with_reducible assumption) | exact vi_mdecl (by with_reducible assumption) | exact vi_mready (by with_reducible assumption))⟩) | exact (fun _ => ⟨vi_latest (by with_reducible assumption) (by with_reducible assumption), vi_run (by with_reducible assumption) (by with_reducible assumption)⟩) | exact (fun _ => (by with_reducible assumption : ¬ v4 = 0 → _) (by with_reducible assumption)) | exact (fun _ => (by first | with_reducible assumption | exact vi_isIn7 (by with_reducible assumption) | exact vi_isThing (by with_reducible assumption) | exact vi_decl (by with_reducible assumption) | exact vi_ready (by with_reducible assumption) | exact vi_run (by with_reducible assumption) (by with_reducible assumption) | exact vi_run (by with_reducible assumption) (vi_runner _) | exact vi_mTask (by with_reducible assumption) | exact vi_mThing (by with_reducible assumption) | exact vi_mdecl (by with_reducible assumption) | exact vi_mready (by with_reducible assumption))) | exact (by first | with_reducible assumption | exact vi_isIn7 (by with_reducible assumption) | exact vi_isThing (by with_reducible assumption) | exact vi_decl (by with_reducible assumption) | exact vi_ready (by with_reducible assumption) | exact vi_run (by with_reducible assumption) (by with_reducible assumption) | exact vi_run (by with_reducible assumption) (vi_runner _) | exact vi_mTask (by with_reducible assumption) | exact vi_mThing (by with_reducible assumption) | exact vi_mdecl (by with_reducible assumption) | exact vi_mready (by with_reducible assumption))) he
  have J48 : ∀ (x0 : Int32) (sl : St) (H : Heap) (locs : List Loc) (ls : Array Slot), lv_has ls 6 [(0, .ref (ad 0)), (1, .int p1), (2, .int p2), (3, .int p3), (4, .int p4)] → va_P D cls9 (mw cI ad sl) H → va_S (inA ad 13) s.heap H locs → (x0 = 0 → vp_in p1 8) → f_M_declare st p1 p2 p3 p4 = f_M_declare_B48 sl x0 p1 p2 p3 p4 → W p l e (headSpec w_M_declare { frames := 2, cells := 0, slots := 0, locals := 41 }).room s m [.ref (ad 0), .int p1, .int p2, .int p3, .int p4].toArray below meth c H locs 0 0 (MQ below (qV D (mw cI ad (f_M_declare st p1 p2 p3 p4)) (inA ad 13)) [.ref (ad 0), .int p1, .int p2, .int p3, .int p4].toArray s 0 0 (inA ad 13)) (F0 m 48 ls [.int x0]) := by
    intro x0 sl H locs ls hl hP hS g0 he
    rw [f_M_declare_B48] at he
    refine lv_istore hx hb d_M_declare_48 hl (by decide) rfl (fun ls hl => ?_)
    have hl : lv_has ls 6 [(5, .int x0), (0, .ref (ad 0)), (1, .int p1), (2, .int p2), (3, .int p3), (4, .int p4)] := hl
    refine lv_aload_n hx hb d_M_declare_50 rfl (lv_at hl 1 rfl) ?_
    refine lv_aload_n hx hb d_M_declare_51 rfl (lv_at hl 1 rfl) ?_
    refine va_get (D := D) (ci := 4) (v := .int (sl 0 1)) (C := R_M) (T := F_M) (N := 18) hx hb hts in_M hown hK hP 0 mw_0 rfl 1 (by decide) (hts _ k_435) (fun _ h9 => h9) rfl d_M_declare_52 ?_
    refine lv_if_ne (tgt := 66) hx hb d_M_declare_55 (by decide) (fun hc16 => ?_) (fun hc16 => ?_)
    · have he := he.trans (if_neg hc16)
      exact J66 x0 sl H locs ls (lv_sub hl [1, 2, 3, 4, 5, 0] rfl) hP hS (by first | with_reducible assumption | exact Or.inl rfl | exact (fun h9 => absurd h9 (by decide)) | exact (fun h9 => absurd rfl h9) | exact vi_runner _ | exact Or.inr (vp_in_nI (by omega) (by decide)) | exact Or.inr (by first | with_reducible assumption | exact vi_isIn7 (by with_reducible assumption) | exact vi_isThing (by with_reducible assumption) | exact vi_decl (by with_reducible assumption) | exact vi_ready (by with_reducible assumption) | exact vi_run (by with_reducible assumption) (by with_reducible assumption) | exact vi_run (by with_reducible assumption) (vi_runner _) | exact vi_mTask (by with_reducible assumption) | exact vi_mThing (by with_reducible assumption) | exact vi_mdecl (by with_reducible assumption) | exact vi_mready (by with_reducible assumption)) | exact (fun _ => ⟨(by first | with_reducible assumption | exact vi_isIn7 (by with_reducible assumption) | exact vi_isThing (by with_reducible assumption) | exact vi_decl (by with_reducible assumption) | exact vi_ready (by with_reducible assumption) | exact vi_run (by with_reducible assumption) (by with_reducible assumption) | exact vi_run (by with_reducible assumption) (vi_runner _) | exact vi_mTask (by with_reducible assumption) | exact vi_mThing (by with_reducible assumption) | exact vi_mdecl (by with_reducible assumption) | exact vi_mready (by with_reducible assumption)), (by first | with_reducible assumption | exact vi_isIn7 (by with_reducible assumption) | exact vi_isThing (by with_reducible assumption) | exact vi_decl (by with_reducible assumption) | exact vi_ready (by with_reducible assumption) | exact vi_run (by with_reducible assumption) (by with_reducible assumption) | exact vi_run (by with_reducible assumption) (vi_runner _) | exact vi_mTask (by with_reducible assumption) | exact vi_mThing (by with_reducible assumption) | exact vi_mdecl (by with_reducible assumption) | exact vi_mready (by with_reducible assumption))⟩) | exact (fun _ => ⟨vi_latest (by with_reducible assumption) (by with_reducible assumption), vi_run (by with_reducible assumption) (by with_reducible assumption)⟩) | exact (fun _ => (by with_reducible assumption : ¬ v4 = 0 → _) (by with_reducible assumption)) | exact (fun _ => (by first | with_reducible assumption | exact vi_isIn7 (by with_reducible assumption) | exact vi_isThing (by with_reducible assumption) | exact vi_decl (by with_reducible assumption) | exact vi_ready (by with_reducible assumption) | exact vi_run (by with_reducible assumption) (by with_reducible assumption) | exact vi_run (by with_reducible assumption) (vi_runner _) | exact vi_mTask (by with_reducible assumption) | exact vi_mThing (by with_reducible assumption) | exact vi_mdecl (by with_reducible assumption) | exact vi_mready (by with_reducible assumption))) | exact (by first | with_reducible assumption | exact vi_isIn7 (by with_reducible assumption) | exact vi_isThing (by with_reducible assumption) | exact vi_decl (by with_reducible assumption) | exact vi_ready (by with_reducible assumption) | exact vi_run (by with_reducible assumption) (by with_reducible assumption) | exact vi_run (by with_reducible assumption) (vi_runner _) | exact vi_mTask (by with_reducible assumption) | exact vi_mThing (by with_reducible assumption) | exact vi_mdecl (by with_reducible assumption) | exact vi_mready (by with_reducible assumption))) he
    · have he := he.trans (if_pos hc16)
      refine lv_aload_n hx hb d_M_declare_58 rfl (lv_at hl 1 rfl) ?_
      refine lv_iload_n hx hb d_M_declare_59 rfl (lv_at hl 2 rfl) ?_
      refine rdV (As := [.int p1]) (rest := [.ref (ad 0)]) (na := 1) (c_M_isDeclared l D cI cT cH ad sl p1 ) ⟨hx, hb, hml, hown, hts⟩ k_500 k_502 k_12 k_28 k_503 (by decide +kernel) (by decide) (by decide) hP hK hN (q0 := 0) (ci := 4) mw_0 rfl rfl hl.1 rfl (Nat.le_of_ble_eq_true rfl) d_M_declare_60 ?_
      refine lv_if_eq (tgt := 70) hx hb d_M_declare_63 (by decide) (fun hc17 => ?_) (fun hc17 => ?_)
      · have he := he.trans (if_pos hc17)
        refine lv_iconst (v := 0) hx hb d_M_declare_70 (by decide) ?_
        exact J71 0 x0 sl H locs ls (lv_sub hl [1, 2, 3, 4, 5, 0] rfl) hP hS (by first | with_reducible assumption | exact Or.inl rfl | exact (fun h9 => absurd h9 (by decide)) | exact (fun h9 => absurd rfl h9) | exact vi_runner _ | exact Or.inr (vp_in_nI (by omega) (by decide)) | exact Or.inr (by first | with_reducible assumption | exact vi_isIn7 (by with_reducible assumption) | exact vi_isThing (by with_reducible assumption) | exact vi_decl (by with_reducible assumption) | exact vi_ready (by with_reducible assumption) | exact vi_run (by with_reducible assumption) (by with_reducible assumption) | exact vi_run (by with_reducible assumption) (vi_runner _) | exact vi_mTask (by with_reducible assumption) | exact vi_mThing (by with_reducible assumption) | exact vi_mdecl (by with_reducible assumption) | exact vi_mready (by with_reducible assumption)) | exact (fun _ => ⟨(by first | with_reducible assumption | exact vi_isIn7 (by with_reducible assumption) | exact vi_isThing (by with_reducible assumption) | exact vi_decl (by with_reducible assumption) | exact vi_ready (by with_reducible assumption) | exact vi_run (by with_reducible assumption) (by with_reducible assumption) | exact vi_run (by with_reducible assumption) (vi_runner _) | exact vi_mTask (by with_reducible assumption) | exact vi_mThing (by with_reducible assumption) | exact vi_mdecl (by with_reducible assumption) | exact vi_mready (by with_reducible assumption)), (by first | with_reducible assumption | exact vi_isIn7 (by with_reducible assumption) | exact vi_isThing (by with_reducible assumption) | exact vi_decl (by with_reducible assumption) | exact vi_ready (by with_reducible assumption) | exact vi_run (by with_reducible assumption) (by with_reducible assumption) | exact vi_run (by with_reducible assumption) (vi_runner _) | exact vi_mTask (by with_reducible assumption) | exact vi_mThing (by with_reducible assumption) | exact vi_mdecl (by with_reducible assumption) | exact vi_mready (by with_reducible assumption))⟩) | exact (fun _ => ⟨vi_latest (by with_reducible assumption) (by with_reducible assumption), vi_run (by with_reducible assumption) (by with_reducible assumption)⟩) | exact (fun _ => (by with_reducible assumption : ¬ v4 = 0 → _) (by with_reducible assumption)) | exact (fun _ => (by first | with_reducible assumption | exact vi_isIn7 (by with_reducible assumption) | exact vi_isThing (by with_reducible assumption) | exact vi_decl (by with_reducible assumption) | exact vi_ready (by with_reducible assumption) | exact vi_run (by with_reducible assumption) (by with_reducible assumption) | exact vi_run (by with_reducible assumption) (vi_runner _) | exact vi_mTask (by with_reducible assumption) | exact vi_mThing (by with_reducible assumption) | exact vi_mdecl (by with_reducible assumption) | exact vi_mready (by with_reducible assumption))) | exact (by first | with_reducible assumption | exact vi_isIn7 (by with_reducible assumption) | exact vi_isThing (by with_reducible assumption) | exact vi_decl (by with_reducible assumption) | exact vi_ready (by with_reducible assumption) | exact vi_run (by with_reducible assumption) (by with_reducible assumption) | exact vi_run (by with_reducible assumption) (vi_runner _) | exact vi_mTask (by with_reducible assumption) | exact vi_mThing (by with_reducible assumption) | exact vi_mdecl (by with_reducible assumption) | exact vi_mready (by with_reducible assumption))) he
      · have he := he.trans (if_neg hc17)
        exact J66 x0 sl H locs ls (lv_sub hl [1, 2, 3, 4, 5, 0] rfl) hP hS (by first | with_reducible assumption | exact Or.inl rfl | exact (fun h9 => absurd h9 (by decide)) | exact (fun h9 => absurd rfl h9) | exact vi_runner _ | exact Or.inr (vp_in_nI (by omega) (by decide)) | exact Or.inr (by first | with_reducible assumption | exact vi_isIn7 (by with_reducible assumption) | exact vi_isThing (by with_reducible assumption) | exact vi_decl (by with_reducible assumption) | exact vi_ready (by with_reducible assumption) | exact vi_run (by with_reducible assumption) (by with_reducible assumption) | exact vi_run (by with_reducible assumption) (vi_runner _) | exact vi_mTask (by with_reducible assumption) | exact vi_mThing (by with_reducible assumption) | exact vi_mdecl (by with_reducible assumption) | exact vi_mready (by with_reducible assumption)) | exact (fun _ => ⟨(by first | with_reducible assumption | exact vi_isIn7 (by with_reducible assumption) | exact vi_isThing (by with_reducible assumption) | exact vi_decl (by with_reducible assumption) | exact vi_ready (by with_reducible assumption) | exact vi_run (by with_reducible assumption) (by with_reducible assumption) | exact vi_run (by with_reducible assumption) (vi_runner _) | exact vi_mTask (by with_reducible assumption) | exact vi_mThing (by with_reducible assumption) | exact vi_mdecl (by with_reducible assumption) | exact vi_mready (by with_reducible assumption)), (by first | with_reducible assumption | exact vi_isIn7 (by with_reducible assumption) | exact vi_isThing (by with_reducible assumption) | exact vi_decl (by with_reducible assumption) | exact vi_ready (by with_reducible assumption) | exact vi_run (by with_reducible assumption) (by with_reducible assumption) | exact vi_run (by with_reducible assumption) (vi_runner _) | exact vi_mTask (by with_reducible assumption) | exact vi_mThing (by with_reducible assumption) | exact vi_mdecl (by with_reducible assumption) | exact vi_mready (by with_reducible assumption))⟩) | exact (fun _ => ⟨vi_latest (by with_reducible assumption) (by with_reducible assumption), vi_run (by with_reducible assumption) (by with_reducible assumption)⟩) | exact (fun _ => (by with_reducible assumption : ¬ v4 = 0 → _) (by with_reducible assumption)) | exact (fun _ => (by first | with_reducible assumption | exact vi_isIn7 (by with_reducible assumption) | exact vi_isThing (by with_reducible assumption) | exact vi_decl (by with_reducible assumption) | exact vi_ready (by with_reducible assumption) | exact vi_run (by with_reducible assumption) (by with_reducible assumption) | exact vi_run (by with_reducible assumption) (vi_runner _) | exact vi_mTask (by with_reducible assumption) | exact vi_mThing (by with_reducible assumption) | exact vi_mdecl (by with_reducible assumption) | exact vi_mready (by with_reducible assumption))) | exact (by first | with_reducible assumption | exact vi_isIn7 (by with_reducible assumption) | exact vi_isThing (by with_reducible assumption) | exact vi_decl (by with_reducible assumption) | exact vi_ready (by with_reducible assumption) | exact vi_run (by with_reducible assumption) (by with_reducible assumption) | exact vi_run (by with_reducible assumption) (vi_runner _) | exact vi_mTask (by with_reducible assumption) | exact vi_mThing (by with_reducible assumption) | exact vi_mdecl (by with_reducible assumption) | exact vi_mready (by with_reducible assumption))) he
  have J43 : ∀ (sl : St) (H : Heap) (locs : List Loc) (ls : Array Slot), lv_has ls 6 [(0, .ref (ad 0)), (1, .int p1), (2, .int p2), (3, .int p3), (4, .int p4)] → va_P D cls9 (mw cI ad sl) H → va_S (inA ad 13) s.heap H locs → f_M_declare st p1 p2 p3 p4 = f_M_declare_B43 sl p1 p2 p3 p4 → W p l e (headSpec w_M_declare { frames := 2, cells := 0, slots := 0, locals := 41 }).room s m [.ref (ad 0), .int p1, .int p2, .int p3, .int p4].toArray below meth c H locs 0 0 (MQ below (qV D (mw cI ad (f_M_declare st p1 p2 p3 p4)) (inA ad 13)) [.ref (ad 0), .int p1, .int p2, .int p3, .int p4].toArray s 0 0 (inA ad 13)) (F0 m 43 ls []) := by
    intro sl H locs ls hl hP hS he
    rw [f_M_declare_B43] at he
    refine lv_iconst (v := 1) hx hb d_M_declare_43 (by decide) ?_
    refine lv_goto (tgt := 48) hx hb d_M_declare_44 (by decide) ?_
    exact J48 1 sl H locs ls (lv_sub hl [0, 1, 2, 3, 4] rfl) hP hS (by first | with_reducible assumption | exact Or.inl rfl | exact (fun h9 => absurd h9 (by decide)) | exact (fun h9 => absurd rfl h9) | exact vi_runner _ | exact Or.inr (vp_in_nI (by omega) (by decide)) | exact Or.inr (by first | with_reducible assumption | exact vi_isIn7 (by with_reducible assumption) | exact vi_isThing (by with_reducible assumption) | exact vi_decl (by with_reducible assumption) | exact vi_ready (by with_reducible assumption) | exact vi_run (by with_reducible assumption) (by with_reducible assumption) | exact vi_run (by with_reducible assumption) (vi_runner _) | exact vi_mTask (by with_reducible assumption) | exact vi_mThing (by with_reducible assumption) | exact vi_mdecl (by with_reducible assumption) | exact vi_mready (by with_reducible assumption)) | exact (fun _ => ⟨(by first | with_reducible assumption | exact vi_isIn7 (by with_reducible assumption) | exact vi_isThing (by with_reducible assumption) | exact vi_decl (by with_reducible assumption) | exact vi_ready (by with_reducible assumption) | exact vi_run (by with_reducible assumption) (by with_reducible assumption) | exact vi_run (by with_reducible assumption) (vi_runner _) | exact vi_mTask (by with_reducible assumption) | exact vi_mThing (by with_reducible assumption) | exact vi_mdecl (by with_reducible assumption) | exact vi_mready (by with_reducible assumption)), (by first | with_reducible assumption | exact vi_isIn7 (by with_reducible assumption) | exact vi_isThing (by with_reducible assumption) | exact vi_decl (by with_reducible assumption) | exact vi_ready (by with_reducible assumption) | exact vi_run (by with_reducible assumption) (by with_reducible assumption) | exact vi_run (by with_reducible assumption) (vi_runner _) | exact vi_mTask (by with_reducible assumption) | exact vi_mThing (by with_reducible assumption) | exact vi_mdecl (by with_reducible assumption) | exact vi_mready (by with_reducible assumption))⟩) | exact (fun _ => ⟨vi_latest (by with_reducible assumption) (by with_reducible assumption), vi_run (by with_reducible assumption) (by with_reducible assumption)⟩) | exact (fun _ => (by with_reducible assumption : ¬ v4 = 0 → _) (by with_reducible assumption)) | exact (fun _ => (by first | with_reducible assumption | exact vi_isIn7 (by with_reducible assumption) | exact vi_isThing (by with_reducible assumption) | exact vi_decl (by with_reducible assumption) | exact vi_ready (by with_reducible assumption) | exact vi_run (by with_reducible assumption) (by with_reducible assumption) | exact vi_run (by with_reducible assumption) (vi_runner _) | exact vi_mTask (by with_reducible assumption) | exact vi_mThing (by with_reducible assumption) | exact vi_mdecl (by with_reducible assumption) | exact vi_mready (by with_reducible assumption))) | exact (by first | with_reducible assumption | exact vi_isIn7 (by with_reducible assumption) | exact vi_isThing (by with_reducible assumption) | exact vi_decl (by with_reducible assumption) | exact vi_ready (by with_reducible assumption) | exact vi_run (by with_reducible assumption) (by with_reducible assumption) | exact vi_run (by with_reducible assumption) (vi_runner _) | exact vi_mTask (by with_reducible assumption) | exact vi_mThing (by with_reducible assumption) | exact vi_mdecl (by with_reducible assumption) | exact vi_mready (by with_reducible assumption))) he
  have he := f_M_declare.eq_1 st p1 p2 p3 p4
  refine lv_iload_n hx hb d_M_declare_0 rfl (lv_at hl 1 rfl) ?_
  refine rdS (As := [.int p1]) (rest := []) (na := 1) (c_M_isTask l p1 ) ⟨hx, hb, hml, hown, hts⟩ k_497 k_498 k_28 k_499 (by decide +kernel) (by decide) (by decide) rfl hl.1 rfl (Nat.le_of_ble_eq_true rfl) d_M_declare_1 ?_
  refine lv_if_eq (tgt := 43) hx hb d_M_declare_4 (by decide) (fun hc18 => ?_) (fun hc18 => ?_)
  · have he := he.trans (if_pos hc18)
    exact J43 st s.heap [] ls (lv_sub hl [0, 1, 2, 3, 4] rfl) hP hS he
  · have he := he.trans (if_neg hc18)
    refine lv_iload_n hx hb d_M_declare_7 rfl (lv_at hl 2 rfl) ?_
    refine lv_iconst (v := 1) hx hb d_M_declare_8 (by decide) ?_
    refine lv_icmp_lt (tgt := 43) hx hb d_M_declare_9 (by decide) (fun hc19 => ?_) (fun hc19 => ?_)
    · have he := he.trans (if_pos hc19)
      exact J43 st s.heap [] ls (lv_sub hl [0, 1, 2, 3, 4] rfl) hP hS he
    · have he := he.trans (if_neg hc19)
      refine lv_iload_n hx hb d_M_declare_12 rfl (lv_at hl 2 rfl) ?_
      refine lv_bipush (v := 16) hx hb d_M_declare_13 (by decide) ?_
      refine lv_icmp_gt (tgt := 43) hx hb d_M_declare_15 (by decide) (fun hc20 => ?_) (fun hc20 => ?_)
      · have he := he.trans (if_pos hc20)
        exact J43 st s.heap [] ls (lv_sub hl [0, 1, 2, 3, 4] rfl) hP hS he
      · have he := he.trans (if_neg hc20)
        refine lv_iload_n hx hb d_M_declare_18 rfl (lv_at hl 3 rfl) ?_
        refine lv_iconst (v := 1) hx hb d_M_declare_19 (by decide) ?_
        refine lv_icmp_lt (tgt := 43) hx hb d_M_declare_20 (by decide) (fun hc21 => ?_) (fun hc21 => ?_)
        · have he := he.trans (if_pos hc21)
          exact J43 st s.heap [] ls (lv_sub hl [0, 1, 2, 3, 4] rfl) hP hS he
        · have he := he.trans (if_neg hc21)
          refine lv_iload_n hx hb d_M_declare_23 rfl (lv_at hl 3 rfl) ?_
          refine lv_bipush (v := 50) hx hb d_M_declare_24 (by decide) ?_
          refine lv_icmp_gt (tgt := 43) hx hb d_M_declare_26 (by decide) (fun hc22 => ?_) (fun hc22 => ?_)
          · have he := he.trans (if_pos hc22)
            exact J43 st s.heap [] ls (lv_sub hl [0, 1, 2, 3, 4] rfl) hP hS he
          · have he := he.trans (if_neg hc22)
            refine lv_iload hx hb d_M_declare_29 (lv_at hl 4 rfl) ?_
            refine lv_iconst (v := 1) hx hb d_M_declare_31 (by decide) ?_
            refine lv_icmp_lt (tgt := 43) hx hb d_M_declare_32 (by decide) (fun hc23 => ?_) (fun hc23 => ?_)
            · have he := he.trans (if_pos hc23)
              exact J43 st s.heap [] ls (lv_sub hl [0, 1, 2, 3, 4] rfl) hP hS he
            · have he := he.trans (if_neg hc23)
              refine lv_iload hx hb d_M_declare_35 (lv_at hl 4 rfl) ?_
              refine lv_sipush (v := 200) hx hb d_M_declare_37 (by decide) ?_
              refine lv_icmp_le (tgt := 47) hx hb d_M_declare_40 (by decide) (fun hc24 => ?_) (fun hc24 => ?_)
              · have he := he.trans (if_pos hc24)
                refine lv_iconst (v := 0) hx hb d_M_declare_47 (by decide) ?_
                exact J48 0 st s.heap [] ls (lv_sub hl [0, 1, 2, 3, 4] rfl) hP hS (by first | with_reducible assumption | exact Or.inl rfl | exact (fun h9 => absurd h9 (by decide)) | exact (fun h9 => absurd rfl h9) | exact vi_runner _ | exact Or.inr (vp_in_nI (by omega) (by decide)) | exact Or.inr (by first | with_reducible assumption | exact vi_isIn7 (by with_reducible assumption) | exact vi_isThing (by with_reducible assumption) | exact vi_decl (by with_reducible assumption) | exact vi_ready (by with_reducible assumption) | exact vi_run (by with_reducible assumption) (by with_reducible assumption) | exact vi_run (by with_reducible assumption) (vi_runner _) | exact vi_mTask (by with_reducible assumption) | exact vi_mThing (by with_reducible assumption) | exact vi_mdecl (by with_reducible assumption) | exact vi_mready (by with_reducible assumption)) | exact (fun _ => ⟨(by first | with_reducible assumption | exact vi_isIn7 (by with_reducible assumption) | exact vi_isThing (by with_reducible assumption) | exact vi_decl (by with_reducible assumption) | exact vi_ready (by with_reducible assumption) | exact vi_run (by with_reducible assumption) (by with_reducible assumption) | exact vi_run (by with_reducible assumption) (vi_runner _) | exact vi_mTask (by with_reducible assumption) | exact vi_mThing (by with_reducible assumption) | exact vi_mdecl (by with_reducible assumption) | exact vi_mready (by with_reducible assumption)), (by first | with_reducible assumption | exact vi_isIn7 (by with_reducible assumption) | exact vi_isThing (by with_reducible assumption) | exact vi_decl (by with_reducible assumption) | exact vi_ready (by with_reducible assumption) | exact vi_run (by with_reducible assumption) (by with_reducible assumption) | exact vi_run (by with_reducible assumption) (vi_runner _) | exact vi_mTask (by with_reducible assumption) | exact vi_mThing (by with_reducible assumption) | exact vi_mdecl (by with_reducible assumption) | exact vi_mready (by with_reducible assumption))⟩) | exact (fun _ => ⟨vi_latest (by with_reducible assumption) (by with_reducible assumption), vi_run (by with_reducible assumption) (by with_reducible assumption)⟩) | exact (fun _ => (by with_reducible assumption : ¬ v4 = 0 → _) (by with_reducible assumption)) | exact (fun _ => (by first | with_reducible assumption | exact vi_isIn7 (by with_reducible assumption) | exact vi_isThing (by with_reducible assumption) | exact vi_decl (by with_reducible assumption) | exact vi_ready (by with_reducible assumption) | exact vi_run (by with_reducible assumption) (by with_reducible assumption) | exact vi_run (by with_reducible assumption) (vi_runner _) | exact vi_mTask (by with_reducible assumption) | exact vi_mThing (by with_reducible assumption) | exact vi_mdecl (by with_reducible assumption) | exact vi_mready (by with_reducible assumption))) | exact (by first | with_reducible assumption | exact vi_isIn7 (by with_reducible assumption) | exact vi_isThing (by with_reducible assumption) | exact vi_decl (by with_reducible assumption) | exact vi_ready (by with_reducible assumption) | exact vi_run (by with_reducible assumption) (by with_reducible assumption) | exact vi_run (by with_reducible assumption) (vi_runner _) | exact vi_mTask (by with_reducible assumption) | exact vi_mThing (by with_reducible assumption) | exact vi_mdecl (by with_reducible assumption) | exact vi_mready (by with_reducible assumption))) he
              · have he := he.trans (if_neg hc24)
                exact J43 st s.heap [] ls (lv_sub hl [0, 1, 2, 3, 4] rfl) hP hS he
set_option maxHeartbeats 4000000 in
set_option maxRecDepth 100000 in
theorem c_M_mayUse (l : Launch) (D : va_G) (cI cT cH : ClassId) (ad : Nat → Nat) (st : St) (p1 : Int32) (p2 : Int32) (p3 : Int32) (hI : ∀ i j, i < 13 → j < 13 → ad i = ad j → i = j) : Met l y_M_mayUse w_M_mayUse { frames := 2, cells := 0, slots := 0, locals := 41 } (va_Pc [.ref (ad 0), .int p1, .int p2, .int p3] (gW D cI cT cH (mw cI ad st))) (qV D (mw cI ad (f_M_mayUse st p1 p2 p3)) (inA ad 13)) 0 0 (inA ad 13) := by
  refine Met.ofW (cc := b_M_mayUse) (maxL := 4) (ret := none) (by decide +kernel) rfl ?_
  intro p e s m args below meth c s₁ B hml hv
  obtain ⟨rfl, hP, hK, hN⟩ := hv
  have hx := B.exec
  have hb := B.bytes
  have hr := B.returns
  have hlocks := B.notSynchronized
  have hts0 := atoms_spec (ws := w_M_mayUse) B.pre
  have hts : ∀ w ∈ TT, w.before [.ref (ad 0), .int p1, .int p2, .int p3].toArray s = true := fun w h => hts0 w (List.mem_cons_of_mem _ h)
  have hown : s.vm.findClass R_M = some m.cls := findClass_of_methodNamed B.named
  have hS : va_S (inA ad 13) s.heap s.heap [] := va_S.rf
  have hl := lv_entry ([.ref (ad 0), .int p1, .int p2, .int p3]) (n := 4) (Nat.le_of_ble_eq_true rfl)
  rw [lg_entry_eq]
  generalize (lg_sl ([.ref (ad 0), .int p1, .int p2, .int p3]) ++ List.replicate (4 - (lg_sl ([.ref (ad 0), .int p1, .int p2, .int p3])).length) Slot.unset).toArray = ls at hl ⊢
  have hl : lv_has ls 4 [(0, .ref (ad 0)), (1, .int p1), (2, .int p2), (3, .int p3)] := hl
  have J36 : ∀ (x1 : Int32) (x2 : Int32) (sl : St) (H : Heap) (locs : List Loc) (ls : Array Slot), lv_has ls 4 [(0, .ref (ad 0)), (1, .int p1), (2, .int p2), (3, .int p3)] → va_P D cls9 (mw cI ad sl) H → va_S (inA ad 13) s.heap H locs → (x2 = 0 → vp_in p1 8 ∧ vp_in p2 6) → f_M_mayUse st p1 p2 p3 = f_M_mayUse_B36 sl x1 x2 p1 p2 p3 → W p l e (headSpec w_M_mayUse { frames := 2, cells := 0, slots := 0, locals := 41 }).room s m [.ref (ad 0), .int p1, .int p2, .int p3].toArray below meth c H locs 0 0 (MQ below (qV D (mw cI ad (f_M_mayUse st p1 p2 p3)) (inA ad 13)) [.ref (ad 0), .int p1, .int p2, .int p3].toArray s 0 0 (inA ad 13)) (F0 m 36 ls [.int x2, .int x1, .ref (ad 0)]) := by
    intro x1 x2 sl H locs ls hl hP hS g0 he
    rw [f_M_mayUse_B36] at he
    refine wcI (As := [.int x1, .int x2]) (rest := []) (na := 2) (c_M_refuses l D cI cT cH ad sl x1 x2 hI) ⟨hx, hb, hml, hown, hts⟩ k_504 k_506 k_13 k_28 k_507 (by decide +kernel) (by decide) (by decide) hP hK hN (q0 := 0) (ci := 4) mw_0 rfl hS rfl hl.1 rfl (Nat.le_of_ble_eq_true rfl) d_M_mayUse_36 (fun H locs hP hS => ?_)
    generalize hw2 : (f_M_refuses sl x1 x2).2 = sw1 at hP he
    have g0 : x2 = 0 → vp_in p1 8 ∧ vp_in p2 6 := by exact g0
    refine W.eq (g2 := F0 m 39 ls [.int ((f_M_refuses sl x1 x2).1)]) rfl ?_
    rw [f_M_mayUse_S39] at he
    refine lv_if_ne (tgt := 54) hx hb d_M_mayUse_39 (by decide) (fun hc3 => ?_) (fun hc3 => ?_)
    · have he := he.trans (if_neg hc3)
      exact W.vret hx hb hr (fun t ht _ => ⟨⟨(), rfl, trivial, (by rw [he]; show va_P _ _ _ t.heap; rw [ht]; exact hP)⟩, hS.F ht⟩) hS.2.2 d_M_mayUse_54
    · have he := he.trans (if_pos hc3)
      have hf0 : vp_in p1 8 := (g0 (vi_ref2 hc3)).1
      have hf1 : vp_in p2 6 := (g0 (vi_ref2 hc3)).2
      refine lv_aload_n hx hb d_M_mayUse_42 rfl (lv_at hl 0 rfl) ?_
      refine va_get (D := D) (ci := 4) (v := .ref (ad 8)) (C := R_M) (T := F_M) (N := 18) hx hb hts in_M hown hK hP 0 mw_0 rfl 11 (by decide) (hts _ k_445) (fun _ h9 => h9) rfl d_M_mayUse_43 ?_
      refine lv_bipush (v := 6) hx hb d_M_mayUse_46 (by decide) ?_
      refine lv_iload_n hx hb d_M_mayUse_48 rfl (lv_at hl 1 rfl) ?_
      refine lv_imul hx hb d_M_mayUse_49 ?_
      refine lv_iload_n hx hb d_M_mayUse_50 rfl (lv_at hl 2 rfl) ?_
      refine lv_iadd hx hb d_M_mayUse_51 ?_
      refine lv_iload_n hx hb d_M_mayUse_52 rfl (lv_at hl 3 rfl) ?_
      have hi4 : vp_in ((6 * p1) + p2) 48 := (vi_six (by first | with_reducible assumption | exact vi_isIn7 (by with_reducible assumption) | exact vi_isThing (by with_reducible assumption) | exact vi_decl (by with_reducible assumption) | exact vi_ready (by with_reducible assumption) | exact vi_run (by with_reducible assumption) (by with_reducible assumption) | exact vi_run (by with_reducible assumption) (vi_runner _) | exact vi_mTask (by with_reducible assumption) | exact vi_mThing (by with_reducible assumption) | exact vi_mdecl (by with_reducible assumption) | exact vi_mready (by with_reducible assumption)) (by first | with_reducible assumption | exact vi_isIn7 (by with_reducible assumption) | exact vi_isThing (by with_reducible assumption) | exact vi_decl (by with_reducible assumption) | exact vi_ready (by with_reducible assumption) | exact vi_run (by with_reducible assumption) (by with_reducible assumption) | exact vi_run (by with_reducible assumption) (vi_runner _) | exact vi_mTask (by with_reducible assumption) | exact vi_mThing (by with_reducible assumption) | exact vi_mdecl (by with_reducible assumption) | exact vi_mready (by with_reducible assumption)))
      refine va_iast hx hb hK hP (mw_D hI) hS 8 0 mw_8 rfl hi4 d_M_mayUse_53 (fun H locs hP _ hS => ?_)
      rw [mp_8] at hP
      generalize hw6 : wr sw1 8 ((6 * p1) + p2).toNatClampNeg p3 = sw5 at hP he
      have g0 : x2 = 0 → vp_in p1 8 ∧ vp_in p2 6 := by exact g0
      refine W.eq (g2 := F0 m 54 ls []) rfl ?_
      exact W.vret hx hb hr (fun t ht _ => ⟨⟨(), rfl, trivial, (by rw [he]; show va_P _ _ _ t.heap; rw [ht]; exact hP)⟩, hS.F ht⟩) hS.2.2 d_M_mayUse_54
  have J31 : ∀ (x1 : Int32) (sl : St) (H : Heap) (locs : List Loc) (ls : Array Slot), lv_has ls 4 [(0, .ref (ad 0)), (1, .int p1), (2, .int p2), (3, .int p3)] → va_P D cls9 (mw cI ad sl) H → va_S (inA ad 13) s.heap H locs → f_M_mayUse st p1 p2 p3 = f_M_mayUse_B31 sl x1 p1 p2 p3 → W p l e (headSpec w_M_mayUse { frames := 2, cells := 0, slots := 0, locals := 41 }).room s m [.ref (ad 0), .int p1, .int p2, .int p3].toArray below meth c H locs 0 0 (MQ below (qV D (mw cI ad (f_M_mayUse st p1 p2 p3)) (inA ad 13)) [.ref (ad 0), .int p1, .int p2, .int p3].toArray s 0 0 (inA ad 13)) (F0 m 31 ls [.int x1, .ref (ad 0)]) := by
    intro x1 sl H locs ls hl hP hS he
    rw [f_M_mayUse_B31] at he
    refine lv_iconst (v := 1) hx hb d_M_mayUse_31 (by decide) ?_
    refine lv_goto (tgt := 36) hx hb d_M_mayUse_32 (by decide) ?_
    exact J36 x1 1 sl H locs ls (lv_sub hl [0, 1, 2, 3] rfl) hP hS (by first | with_reducible assumption | exact Or.inl rfl | exact (fun h9 => absurd h9 (by decide)) | exact (fun h9 => absurd rfl h9) | exact vi_runner _ | exact Or.inr (vp_in_nI (by omega) (by decide)) | exact Or.inr (by first | with_reducible assumption | exact vi_isIn7 (by with_reducible assumption) | exact vi_isThing (by with_reducible assumption) | exact vi_decl (by with_reducible assumption) | exact vi_ready (by with_reducible assumption) | exact vi_run (by with_reducible assumption) (by with_reducible assumption) | exact vi_run (by with_reducible assumption) (vi_runner _) | exact vi_mTask (by with_reducible assumption) | exact vi_mThing (by with_reducible assumption) | exact vi_mdecl (by with_reducible assumption) | exact vi_mready (by with_reducible assumption)) | exact (fun _ => ⟨(by first | with_reducible assumption | exact vi_isIn7 (by with_reducible assumption) | exact vi_isThing (by with_reducible assumption) | exact vi_decl (by with_reducible assumption) | exact vi_ready (by with_reducible assumption) | exact vi_run (by with_reducible assumption) (by with_reducible assumption) | exact vi_run (by with_reducible assumption) (vi_runner _) | exact vi_mTask (by with_reducible assumption) | exact vi_mThing (by with_reducible assumption) | exact vi_mdecl (by with_reducible assumption) | exact vi_mready (by with_reducible assumption)), (by first | with_reducible assumption | exact vi_isIn7 (by with_reducible assumption) | exact vi_isThing (by with_reducible assumption) | exact vi_decl (by with_reducible assumption) | exact vi_ready (by with_reducible assumption) | exact vi_run (by with_reducible assumption) (by with_reducible assumption) | exact vi_run (by with_reducible assumption) (vi_runner _) | exact vi_mTask (by with_reducible assumption) | exact vi_mThing (by with_reducible assumption) | exact vi_mdecl (by with_reducible assumption) | exact vi_mready (by with_reducible assumption))⟩) | exact (fun _ => ⟨vi_latest (by with_reducible assumption) (by with_reducible assumption), vi_run (by with_reducible assumption) (by with_reducible assumption)⟩) | exact (fun _ => (by with_reducible assumption : ¬ v4 = 0 → _) (by with_reducible assumption)) | exact (fun _ => (by first | with_reducible assumption | exact vi_isIn7 (by with_reducible assumption) | exact vi_isThing (by with_reducible assumption) | exact vi_decl (by with_reducible assumption) | exact vi_ready (by with_reducible assumption) | exact vi_run (by with_reducible assumption) (by with_reducible assumption) | exact vi_run (by with_reducible assumption) (vi_runner _) | exact vi_mTask (by with_reducible assumption) | exact vi_mThing (by with_reducible assumption) | exact vi_mdecl (by with_reducible assumption) | exact vi_mready (by with_reducible assumption))) | exact (by first | with_reducible assumption | exact vi_isIn7 (by with_reducible assumption) | exact vi_isThing (by with_reducible assumption) | exact vi_decl (by with_reducible assumption) | exact vi_ready (by with_reducible assumption) | exact vi_run (by with_reducible assumption) (by with_reducible assumption) | exact vi_run (by with_reducible assumption) (vi_runner _) | exact vi_mTask (by with_reducible assumption) | exact vi_mThing (by with_reducible assumption) | exact vi_mdecl (by with_reducible assumption) | exact vi_mready (by with_reducible assumption))) he
  have he := f_M_mayUse.eq_1 st p1 p2 p3
  refine lv_aload_n hx hb d_M_mayUse_0 rfl (lv_at hl 0 rfl) ?_
  refine lv_aload_n hx hb d_M_mayUse_1 rfl (lv_at hl 0 rfl) ?_
  refine va_get (D := D) (ci := 4) (v := .int (st 0 1)) (C := R_M) (T := F_M) (N := 18) hx hb hts in_M hown hK hP 0 mw_0 rfl 1 (by decide) (hts _ k_435) (fun _ h9 => h9) rfl d_M_mayUse_2 ?_
  refine lv_aload_n hx hb d_M_mayUse_5 rfl (lv_at hl 0 rfl) ?_
  refine lv_iload_n hx hb d_M_mayUse_6 rfl (lv_at hl 1 rfl) ?_
  refine rdV (As := [.int p1]) (rest := [.int (st 0 1), .ref (ad 0)]) (na := 1) (c_M_isDeclared l D cI cT cH ad st p1 ) ⟨hx, hb, hml, hown, hts⟩ k_500 k_502 k_12 k_28 k_503 (by decide +kernel) (by decide) (by decide) hP hK hN (q0 := 0) (ci := 4) mw_0 rfl rfl hl.1 rfl (Nat.le_of_ble_eq_true rfl) d_M_mayUse_7 ?_
  refine lv_if_eq (tgt := 31) hx hb d_M_mayUse_10 (by decide) (fun hc7 => ?_) (fun hc7 => ?_)
  · have he := he.trans (if_pos hc7)
    exact J31 (st 0 1) st s.heap [] ls (lv_sub hl [0, 1, 2, 3] rfl) hP hS he
  · have he := he.trans (if_neg hc7)
    refine lv_iload_n hx hb d_M_mayUse_13 rfl (lv_at hl 2 rfl) ?_
    refine rdS (As := [.int p2]) (rest := [.int (st 0 1), .ref (ad 0)]) (na := 1) (c_M_isThing l p2 ) ⟨hx, hb, hml, hown, hts⟩ k_512 k_513 k_28 k_514 (by decide +kernel) (by decide) (by decide) rfl hl.1 rfl (Nat.le_of_ble_eq_true rfl) d_M_mayUse_14 ?_
    refine lv_if_eq (tgt := 31) hx hb d_M_mayUse_17 (by decide) (fun hc8 => ?_) (fun hc8 => ?_)
    · have he := he.trans (if_pos hc8)
      exact J31 (st 0 1) st s.heap [] ls (lv_sub hl [0, 1, 2, 3] rfl) hP hS he
    · have he := he.trans (if_neg hc8)
      refine lv_iload_n hx hb d_M_mayUse_20 rfl (lv_at hl 3 rfl) ?_
      refine lv_iconst (v := 1) hx hb d_M_mayUse_21 (by decide) ?_
      refine lv_icmp_lt (tgt := 31) hx hb d_M_mayUse_22 (by decide) (fun hc9 => ?_) (fun hc9 => ?_)
      · have he := he.trans (if_pos hc9)
        exact J31 (st 0 1) st s.heap [] ls (lv_sub hl [0, 1, 2, 3] rfl) hP hS he
      · have he := he.trans (if_neg hc9)
        refine lv_iload_n hx hb d_M_mayUse_25 rfl (lv_at hl 3 rfl) ?_
        refine lv_bipush (v := 50) hx hb d_M_mayUse_26 (by decide) ?_
        refine lv_icmp_le (tgt := 35) hx hb d_M_mayUse_28 (by decide) (fun hc10 => ?_) (fun hc10 => ?_)
        · have he := he.trans (if_pos hc10)
          refine lv_iconst (v := 0) hx hb d_M_mayUse_35 (by decide) ?_
          exact J36 (st 0 1) 0 st s.heap [] ls (lv_sub hl [0, 1, 2, 3] rfl) hP hS (by first | with_reducible assumption | exact Or.inl rfl | exact (fun h9 => absurd h9 (by decide)) | exact (fun h9 => absurd rfl h9) | exact vi_runner _ | exact Or.inr (vp_in_nI (by omega) (by decide)) | exact Or.inr (by first | with_reducible assumption | exact vi_isIn7 (by with_reducible assumption) | exact vi_isThing (by with_reducible assumption) | exact vi_decl (by with_reducible assumption) | exact vi_ready (by with_reducible assumption) | exact vi_run (by with_reducible assumption) (by with_reducible assumption) | exact vi_run (by with_reducible assumption) (vi_runner _) | exact vi_mTask (by with_reducible assumption) | exact vi_mThing (by with_reducible assumption) | exact vi_mdecl (by with_reducible assumption) | exact vi_mready (by with_reducible assumption)) | exact (fun _ => ⟨(by first | with_reducible assumption | exact vi_isIn7 (by with_reducible assumption) | exact vi_isThing (by with_reducible assumption) | exact vi_decl (by with_reducible assumption) | exact vi_ready (by with_reducible assumption) | exact vi_run (by with_reducible assumption) (by with_reducible assumption) | exact vi_run (by with_reducible assumption) (vi_runner _) | exact vi_mTask (by with_reducible assumption) | exact vi_mThing (by with_reducible assumption) | exact vi_mdecl (by with_reducible assumption) | exact vi_mready (by with_reducible assumption)), (by first | with_reducible assumption | exact vi_isIn7 (by with_reducible assumption) | exact vi_isThing (by with_reducible assumption) | exact vi_decl (by with_reducible assumption) | exact vi_ready (by with_reducible assumption) | exact vi_run (by with_reducible assumption) (by with_reducible assumption) | exact vi_run (by with_reducible assumption) (vi_runner _) | exact vi_mTask (by with_reducible assumption) | exact vi_mThing (by with_reducible assumption) | exact vi_mdecl (by with_reducible assumption) | exact vi_mready (by with_reducible assumption))⟩) | exact (fun _ => ⟨vi_latest (by with_reducible assumption) (by with_reducible assumption), vi_run (by with_reducible assumption) (by with_reducible assumption)⟩) | exact (fun _ => (by with_reducible assumption : ¬ v4 = 0 → _) (by with_reducible assumption)) | exact (fun _ => (by first | with_reducible assumption | exact vi_isIn7 (by with_reducible assumption) | exact vi_isThing (by with_reducible assumption) | exact vi_decl (by with_reducible assumption) | exact vi_ready (by with_reducible assumption) | exact vi_run (by with_reducible assumption) (by with_reducible assumption) | exact vi_run (by with_reducible assumption) (vi_runner _) | exact vi_mTask (by with_reducible assumption) | exact vi_mThing (by with_reducible assumption) | exact vi_mdecl (by with_reducible assumption) | exact vi_mready (by with_reducible assumption))) | exact (by first | with_reducible assumption | exact vi_isIn7 (by with_reducible assumption) | exact vi_isThing (by with_reducible assumption) | exact vi_decl (by with_reducible assumption) | exact vi_ready (by with_reducible assumption) | exact vi_run (by with_reducible assumption) (by with_reducible assumption) | exact vi_run (by with_reducible assumption) (vi_runner _) | exact vi_mTask (by with_reducible assumption) | exact vi_mThing (by with_reducible assumption) | exact vi_mdecl (by with_reducible assumption) | exact vi_mready (by with_reducible assumption))) he
        · have he := he.trans (if_neg hc10)
          exact J31 (st 0 1) st s.heap [] ls (lv_sub hl [0, 1, 2, 3] rfl) hP hS he
set_option maxHeartbeats 4000000 in
set_option maxRecDepth 100000 in
theorem c_M_seal (l : Launch) (D : va_G) (cI cT cH : ClassId) (ad : Nat → Nat) (st : St) (hI : ∀ i j, i < 13 → j < 13 → ad i = ad j → i = j) : Met l y_M_seal w_M_seal { frames := 1, cells := 0, slots := 0, locals := 22 } (va_Pc [.ref (ad 0)] (gW D cI cT cH (mw cI ad st))) (qI D (f_M_seal st).1 (mw cI ad ((f_M_seal st).2)) (inA ad 13)) 0 0 (inA ad 13) := by
  refine Met.ofW (cc := b_M_seal) (maxL := 3) (ret := (some .int)) (by decide +kernel) rfl ?_
  intro p e s m args below meth c s₁ B hml hv
  obtain ⟨rfl, hP, hK, hN⟩ := hv
  have hx := B.exec
  have hb := B.bytes
  have hr := B.returns
  have hlocks := B.notSynchronized
  have hts0 := atoms_spec (ws := w_M_seal) B.pre
  have hts : ∀ w ∈ TT, w.before [.ref (ad 0)].toArray s = true := fun w h => hts0 w (List.mem_cons_of_mem _ h)
  have hown : s.vm.findClass R_M = some m.cls := findClass_of_methodNamed B.named
  have hS : va_S (inA ad 13) s.heap s.heap [] := va_S.rf
  have hl := lv_entry ([.ref (ad 0)]) (n := 3) (Nat.le_of_ble_eq_true rfl)
  rw [lg_entry_eq]
  generalize (lg_sl ([.ref (ad 0)]) ++ List.replicate (3 - (lg_sl ([.ref (ad 0)])).length) Slot.unset).toArray = ls at hl ⊢
  have hl : lv_has ls 3 [(0, .ref (ad 0))] := hl
  have L23 : ∀ (n i : Nat) (v1 : Int32) (sl : St) (H : Heap) (locs : List Loc) (ls : Array Slot), i + n = 8 → lv_has ls 3 [(0, .ref (ad 0)), (1, .int v1), (2, .int (nI i))] → va_P D cls9 (mw cI ad sl) H → va_S (inA ad 13) s.heap H locs → f_M_seal st = f_M_seal_L23 n i sl v1 → W p l e (headSpec w_M_seal { frames := 1, cells := 0, slots := 0, locals := 22 }).room s m [.ref (ad 0)].toArray below meth c H locs 0 0 (MQ below (qI D (f_M_seal st).1 (mw cI ad ((f_M_seal st).2)) (inA ad 13)) [.ref (ad 0)].toArray s 0 0 (inA ad 13)) (F0 m 23 ls []) := by
    intro n
    induction n with
    | zero =>
      intro i v1 sl H locs ls hcnt hl hP hS he
      have hz : i = 8 := by omega
      subst hz
      rw [f_M_seal_L23] at he
      refine lv_iload_n hx hb d_M_seal_23 rfl (lv_at hl 2 rfl) ?_
      refine lv_bipush (v := 8) hx hb d_M_seal_24 (by decide) ?_
      refine lv_icmp_ge (tgt := 52) hx hb d_M_seal_26 (by decide) (fun _ => ?_) (fun h9 => absurd (by decide) h9)
      refine lv_iload_n hx hb d_M_seal_52 rfl (lv_at hl 1 rfl) ?_
      exact W.iret (v := v1) hx hb hr (fun t ht _ => ⟨⟨v1, (), rfl, by rw [he], (by rw [he]; show va_P _ _ _ t.heap; rw [ht]; exact hP)⟩, hS.F ht⟩) hS.2.2 d_M_seal_53
    | succ n ih =>
      intro i v1 sl H locs ls hcnt hl hP hS he
      have hi8 : i < 8 := by omega
      rw [f_M_seal_L23] at he
      refine lv_iload_n hx hb d_M_seal_23 rfl (lv_at hl 2 rfl) ?_
      refine lv_bipush (v := 8) hx hb d_M_seal_24 (by decide) ?_
      refine lv_icmp_ge (tgt := 52) hx hb d_M_seal_26 (by decide) (fun h9 => absurd h9 (nlt_8 hi8)) (fun _ => ?_)
      refine lv_iload_n hx hb d_M_seal_29 rfl (lv_at hl 1 rfl) ?_
      refine lv_aload_n hx hb d_M_seal_30 rfl (lv_at hl 0 rfl) ?_
      refine va_get (D := D) (ci := 4) (v := .ref (ad 1)) (C := R_M) (T := F_M) (N := 18) hx hb hts in_M hown hK hP 0 mw_0 rfl 4 (by decide) (hts _ k_438) (fun _ h9 => h9) rfl d_M_seal_31 ?_
      refine lv_iload_n hx hb d_M_seal_34 rfl (lv_at hl 2 rfl) ?_
      have hi1 : vp_in (nI i) 8 := (vp_in_nI (by omega) (by decide))
      refine va_iald hx hb hK hP 1 0 mw_1 rfl hi1 d_M_seal_35 ?_
      rw [show (nI i).toNatClampNeg = i from nI_clamp (by omega)]
      refine W.eq (g2 := F0 m 36 ls [.int (sl 1 i), .int v1]) rfl ?_
      refine lv_if_le (tgt := 43) hx hb d_M_seal_36 (by decide) (fun hc2 => ?_) (fun hc2 => ?_)
      · have he := he.trans (if_pos hc2)
        refine lv_iconst (v := 0) hx hb d_M_seal_43 (by decide) ?_
        refine lv_iadd hx hb d_M_seal_44 ?_
        refine lv_istore_n hx hb d_M_seal_45 rfl hl (by decide) rfl (fun ls hl => ?_)
        have hl : lv_has ls 3 [(1, .int (v1 + 0)), (0, .ref (ad 0)), (2, .int (nI i))] := hl
        refine lv_iinc (k := 2) (v := (nI (i + 1))) hx hb d_M_seal_46 hl rfl (by first | rfl | (rw [nI_succ]; rfl)) (by decide) rfl (fun ls hl => ?_)
        have hl : lv_has ls 3 [(2, .int (nI (i + 1))), (1, .int (v1 + 0)), (0, .ref (ad 0))] := hl
        refine lv_goto (tgt := 23) hx hb d_M_seal_49 (by decide) ?_
        exact ih (i + 1) (v1 + 0) sl H locs ls (by omega) (lv_sub hl [2, 1, 0] rfl) hP hS he
      · have he := he.trans (if_neg hc2)
        refine lv_iconst (v := 1) hx hb d_M_seal_39 (by decide) ?_
        refine lv_goto (tgt := 44) hx hb d_M_seal_40 (by decide) ?_
        refine lv_iadd hx hb d_M_seal_44 ?_
        refine lv_istore_n hx hb d_M_seal_45 rfl hl (by decide) rfl (fun ls hl => ?_)
        have hl : lv_has ls 3 [(1, .int (v1 + 1)), (0, .ref (ad 0)), (2, .int (nI i))] := hl
        refine lv_iinc (k := 2) (v := (nI (i + 1))) hx hb d_M_seal_46 hl rfl (by first | rfl | (rw [nI_succ]; rfl)) (by decide) rfl (fun ls hl => ?_)
        have hl : lv_has ls 3 [(2, .int (nI (i + 1))), (1, .int (v1 + 1)), (0, .ref (ad 0))] := hl
        refine lv_goto (tgt := 23) hx hb d_M_seal_49 (by decide) ?_
        exact ih (i + 1) (v1 + 1) sl H locs ls (by omega) (lv_sub hl [2, 1, 0] rfl) hP hS he
  have he := f_M_seal.eq_1 st
  refine lv_aload_n hx hb d_M_seal_0 rfl (lv_at hl 0 rfl) ?_
  refine lv_aload_n hx hb d_M_seal_1 rfl (lv_at hl 0 rfl) ?_
  refine va_get (D := D) (ci := 4) (v := .int (st 0 1)) (C := R_M) (T := F_M) (N := 18) hx hb hts in_M hown hK hP 0 mw_0 rfl 1 (by decide) (hts _ k_435) (fun _ h9 => h9) rfl d_M_seal_2 ?_
  refine lv_iconst (v := 0) hx hb d_M_seal_5 (by decide) ?_
  refine wcI (As := [.int (st 0 1), .int 0]) (rest := []) (na := 2) (c_M_refuses l D cI cT cH ad st (st 0 1) 0 hI) ⟨hx, hb, hml, hown, hts⟩ k_504 k_506 k_13 k_28 k_507 (by decide +kernel) (by decide) (by decide) hP hK hN (q0 := 0) (ci := 4) mw_0 rfl hS rfl hl.1 rfl (Nat.le_of_ble_eq_true rfl) d_M_seal_6 (fun H locs hP hS => ?_)
  generalize hw4 : (f_M_refuses st (st 0 1) 0).2 = sw3 at hP he
  refine W.eq (g2 := F0 m 9 ls [.int ((f_M_refuses st (st 0 1) 0).1)]) rfl ?_
  rw [f_M_seal_S9] at he
  refine lv_if_eq (tgt := 14) hx hb d_M_seal_9 (by decide) (fun hc5 => ?_) (fun hc5 => ?_)
  · have he := he.trans (if_pos hc5)
    refine lv_aload_n hx hb d_M_seal_14 rfl (lv_at hl 0 rfl) ?_
    refine lv_iconst (v := 1) hx hb d_M_seal_15 (by decide) ?_
    refine va_put (D := D) (ci := 4) (v := .int 1) (ty := .boolean) (C := R_M) (T := F_M) (N := 18) hx hb hts in_M ft_M ft_M_ok n_M hown hK hP (mw_D hI) hS 0 mw_0 rfl 1 (by decide) (hts _ k_435) (fun _ h9 => h9) rfl (by decide +kernel) rfl rfl (Nat.le_of_ble_eq_true rfl) d_M_seal_16 (fun H locs hP _ hS => ?_)
    rw [mp_0 (k := 1) (by decide)] at hP
    generalize hw7 : wr sw3 0 1 1 = sw6 at hP he
    refine W.eq (g2 := F0 m 19 ls []) rfl ?_
    rw [f_M_seal_S19] at he
    refine lv_iconst (v := 0) hx hb d_M_seal_19 (by decide) ?_
    refine lv_istore_n hx hb d_M_seal_20 rfl hl (by decide) rfl (fun ls hl => ?_)
    have hl : lv_has ls 3 [(1, .int 0), (0, .ref (ad 0))] := hl
    refine lv_iconst (v := 0) hx hb d_M_seal_21 (by decide) ?_
    refine lv_istore_n hx hb d_M_seal_22 rfl hl (by decide) rfl (fun ls hl => ?_)
    have hl : lv_has ls 3 [(2, .int 0), (1, .int 0), (0, .ref (ad 0))] := hl
    exact L23 8 0 0 sw6 H locs ls (by first | decide | omega) (lv_sub hl [2, 1, 0] rfl) hP hS he
  · have he := he.trans (if_neg hc5)
    refine lv_iconst (v := 0) hx hb d_M_seal_12 (by decide) ?_
    exact W.iret (v := 0) hx hb hr (fun t ht _ => ⟨⟨0, (), rfl, by rw [he], (by rw [he]; show va_P _ _ _ t.heap; rw [ht]; exact hP)⟩, hS.F ht⟩) hS.2.2 d_M_seal_13
set_option maxHeartbeats 4000000 in
set_option maxRecDepth 100000 in
theorem c_M_release (l : Launch) (D : va_G) (cI cT cH : ClassId) (ad : Nat → Nat) (st : St) (p1 : Int32) (hI : ∀ i j, i < 13 → j < 13 → ad i = ad j → i = j) (hy0 : vp_in (irem (st 0 16) 40) 40 ∧ vp_in (irem (st 0 16 + 1) 40) 40) : Met l y_M_release w_M_release { frames := 3, cells := 0, slots := 0, locals := 69 } (va_Pc [.ref (ad 0), .int p1] (gW D cI cT cH (mw cI ad st))) (qI D (f_M_release st p1).1 (mw cI ad ((f_M_release st p1).2)) (inA ad 13)) 0 0 (inA ad 13) := by
  refine Met.ofW (cc := b_M_release) (maxL := 3) (ret := (some .int)) (by decide +kernel) rfl ?_
  intro p e s m args below meth c s₁ B hml hv
  obtain ⟨rfl, hP, hK, hN⟩ := hv
  have hx := B.exec
  have hb := B.bytes
  have hr := B.returns
  have hlocks := B.notSynchronized
  have hts0 := atoms_spec (ws := w_M_release) B.pre
  have hts : ∀ w ∈ TT, w.before [.ref (ad 0), .int p1].toArray s = true := fun w h => hts0 w (List.mem_cons_of_mem _ h)
  have hown : s.vm.findClass R_M = some m.cls := findClass_of_methodNamed B.named
  have hS : va_S (inA ad 13) s.heap s.heap [] := va_S.rf
  have hl := lv_entry ([.ref (ad 0), .int p1]) (n := 3) (Nat.le_of_ble_eq_true rfl)
  rw [lg_entry_eq]
  generalize (lg_sl ([.ref (ad 0), .int p1]) ++ List.replicate (3 - (lg_sl ([.ref (ad 0), .int p1])).length) Slot.unset).toArray = ls at hl ⊢
  have hl : lv_has ls 3 [(0, .ref (ad 0)), (1, .int p1)] := hl
  have J34 : ∀ (x1 : Int32) (x2 : Int32) (sl : St) (H : Heap) (locs : List Loc) (ls : Array Slot), lv_has ls 3 [(0, .ref (ad 0)), (1, .int p1)] → va_P D cls9 (mw cI ad sl) H → va_S (inA ad 13) s.heap H locs → (x2 = 0 → vp_in p1 8) → (vp_in (irem (sl 0 16) 40) 40 ∧ vp_in (irem (sl 0 16 + 1) 40) 40) → f_M_release st p1 = f_M_release_B34 sl x1 x2 p1 → W p l e (headSpec w_M_release { frames := 3, cells := 0, slots := 0, locals := 69 }).room s m [.ref (ad 0), .int p1].toArray below meth c H locs 0 0 (MQ below (qI D (f_M_release st p1).1 (mw cI ad ((f_M_release st p1).2)) (inA ad 13)) [.ref (ad 0), .int p1].toArray s 0 0 (inA ad 13)) (F0 m 34 ls [.int x2, .int x1, .ref (ad 0)]) := by
    intro x1 x2 sl H locs ls hl hP hS g0 g1 he
    rw [f_M_release_B34] at he
    refine wcI (As := [.int x1, .int x2]) (rest := []) (na := 2) (c_M_refuses l D cI cT cH ad sl x1 x2 hI) ⟨hx, hb, hml, hown, hts⟩ k_504 k_506 k_13 k_28 k_507 (by decide +kernel) (by decide) (by decide) hP hK hN (q0 := 0) (ci := 4) mw_0 rfl hS rfl hl.1 rfl (Nat.le_of_ble_eq_true rfl) d_M_release_34 (fun H locs hP hS => ?_)
    generalize hw2 : (f_M_refuses sl x1 x2).2 = sw1 at hP he
    have g0 : x2 = 0 → vp_in p1 8 := by exact g0
    have eg1_16 : sw1 0 16 = sl 0 16 := by rw [← hw2]; exact ref_at (by decide)
    have g1 : vp_in (irem (sw1 0 16) 40) 40 ∧ vp_in (irem (sw1 0 16 + 1) 40) 40 := by rw [eg1_16]; exact g1
    refine W.eq (g2 := F0 m 37 ls [.int ((f_M_refuses sl x1 x2).1)]) rfl ?_
    rw [f_M_release_S37] at he
    refine lv_if_eq (tgt := 42) hx hb d_M_release_37 (by decide) (fun hc3 => ?_) (fun hc3 => ?_)
    · have he := he.trans (if_pos hc3)
      have hf0 : vp_in p1 8 := g0 (vi_ref2 hc3)
      refine lv_aload_n hx hb d_M_release_42 rfl (lv_at hl 0 rfl) ?_
      refine rdV (As := []) (rest := []) (na := 0) (c_M_runner l D cI cT cH ad sw1  ) ⟨hx, hb, hml, hown, hts⟩ k_527 k_529 k_15 k_28 k_530 (by decide +kernel) (by decide) (by decide) hP hK hN (q0 := 0) (ci := 4) mw_0 rfl rfl hl.1 rfl (Nat.le_of_ble_eq_true rfl) d_M_release_43 ?_
      refine lv_istore_n hx hb d_M_release_46 rfl hl (by decide) rfl (fun ls hl => ?_)
      have hl : lv_has ls 3 [(2, .int (f_M_runner sw1)), (0, .ref (ad 0)), (1, .int p1)] := hl
      refine lv_aload_n hx hb d_M_release_47 rfl (lv_at hl 1 rfl) ?_
      refine lv_dup hx hb d_M_release_48 rfl ?_
      refine va_get (D := D) (ci := 4) (v := .int (sw1 0 3)) (C := R_M) (T := F_M) (N := 18) hx hb hts in_M hown hK hP 0 mw_0 rfl 3 (by decide) (hts _ k_437) (fun _ h9 => h9) rfl d_M_release_49 ?_
      refine lv_iconst (v := 1) hx hb d_M_release_52 (by decide) ?_
      refine lv_iadd hx hb d_M_release_53 ?_
      refine va_put (D := D) (ci := 4) (v := .int ((sw1 0 3) + 1)) (ty := .int) (C := R_M) (T := F_M) (N := 18) hx hb hts in_M ft_M ft_M_ok n_M hown hK hP (mw_D hI) hS 0 mw_0 rfl 3 (by decide) (hts _ k_437) (fun _ h9 => h9) rfl (by decide +kernel) rfl rfl (Nat.le_of_ble_eq_true rfl) d_M_release_54 (fun H locs hP _ hS => ?_)
      rw [mp_0 (k := 3) (by decide)] at hP
      generalize hw5 : wr sw1 0 3 ((sw1 0 3) + 1) = sw4 at hP he
      have g0 : x2 = 0 → vp_in p1 8 := by exact g0
      have eg1_16 : sw4 0 16 = sw1 0 16 := by rw [← hw5]; exact wr_ne (by omega)
      have g1 : vp_in (irem (sw4 0 16) 40) 40 ∧ vp_in (irem (sw4 0 16 + 1) 40) 40 := by rw [eg1_16]; exact g1
      refine W.eq (g2 := F0 m 57 ls []) rfl ?_
      rw [f_M_release_S57] at he
      refine lv_aload_n hx hb d_M_release_57 rfl (lv_at hl 1 rfl) ?_
      refine va_get (D := D) (ci := 4) (v := .ref (ad 4)) (C := R_M) (T := F_M) (N := 18) hx hb hts in_M hown hK hP 0 mw_0 rfl 7 (by decide) (hts _ k_441) (fun _ h9 => h9) rfl d_M_release_58 ?_
      refine lv_iload_n hx hb d_M_release_61 rfl (lv_at hl 2 rfl) ?_
      refine lv_aload_n hx hb d_M_release_62 rfl (lv_at hl 1 rfl) ?_
      refine va_get (D := D) (ci := 4) (v := .int (sw4 0 3)) (C := R_M) (T := F_M) (N := 18) hx hb hts in_M hown hK hP 0 mw_0 rfl 3 (by decide) (hts _ k_437) (fun _ h9 => h9) rfl d_M_release_63 ?_
      have hi6 : vp_in p1 8 := (by first | with_reducible assumption | exact vi_isIn7 (by with_reducible assumption) | exact vi_isThing (by with_reducible assumption) | exact vi_decl (by with_reducible assumption) | exact vi_ready (by with_reducible assumption) | exact vi_run (by with_reducible assumption) (by with_reducible assumption) | exact vi_run (by with_reducible assumption) (vi_runner _) | exact vi_mTask (by with_reducible assumption) | exact vi_mThing (by with_reducible assumption) | exact vi_mdecl (by with_reducible assumption) | exact vi_mready (by with_reducible assumption))
      refine va_iast hx hb hK hP (mw_D hI) hS 4 0 mw_4 rfl hi6 d_M_release_66 (fun H locs hP _ hS => ?_)
      rw [mp_4] at hP
      generalize hw8 : wr sw4 4 p1.toNatClampNeg (sw4 0 3) = sw7 at hP he
      have g0 : x2 = 0 → vp_in p1 8 := by exact g0
      have eg1_16 : sw7 0 16 = sw4 0 16 := by rw [← hw8]; exact wr_ne (by omega)
      have g1 : vp_in (irem (sw7 0 16) 40) 40 ∧ vp_in (irem (sw7 0 16 + 1) 40) 40 := by rw [eg1_16]; exact g1
      refine W.eq (g2 := F0 m 67 ls []) rfl ?_
      rw [f_M_release_S67] at he
      refine lv_aload_n hx hb d_M_release_67 rfl (lv_at hl 1 rfl) ?_
      refine va_get (D := D) (ci := 4) (v := .ref (ad 5)) (C := R_M) (T := F_M) (N := 18) hx hb hts in_M hown hK hP 0 mw_0 rfl 8 (by decide) (hts _ k_442) (fun _ h9 => h9) rfl d_M_release_68 ?_
      refine lv_iload_n hx hb d_M_release_71 rfl (lv_at hl 2 rfl) ?_
      refine lv_aload_n hx hb d_M_release_72 rfl (lv_at hl 1 rfl) ?_
      refine va_get (D := D) (ci := 4) (v := .ref (ad 1)) (C := R_M) (T := F_M) (N := 18) hx hb hts in_M hown hK hP 0 mw_0 rfl 4 (by decide) (hts _ k_438) (fun _ h9 => h9) rfl d_M_release_73 ?_
      refine lv_iload_n hx hb d_M_release_76 rfl (lv_at hl 2 rfl) ?_
      have hi9 : vp_in p1 8 := (by first | with_reducible assumption | exact vi_isIn7 (by with_reducible assumption) | exact vi_isThing (by with_reducible assumption) | exact vi_decl (by with_reducible assumption) | exact vi_ready (by with_reducible assumption) | exact vi_run (by with_reducible assumption) (by with_reducible assumption) | exact vi_run (by with_reducible assumption) (vi_runner _) | exact vi_mTask (by with_reducible assumption) | exact vi_mThing (by with_reducible assumption) | exact vi_mdecl (by with_reducible assumption) | exact vi_mready (by with_reducible assumption))
      refine va_iald hx hb hK hP 1 0 mw_1 rfl hi9 d_M_release_77 ?_
      refine W.eq (g2 := F0 m 78 ls [.int (sw7 1 p1.toNatClampNeg), .int p1, .ref (ad 5)]) rfl ?_
      have hi10 : vp_in p1 8 := (by first | with_reducible assumption | exact vi_isIn7 (by with_reducible assumption) | exact vi_isThing (by with_reducible assumption) | exact vi_decl (by with_reducible assumption) | exact vi_ready (by with_reducible assumption) | exact vi_run (by with_reducible assumption) (by with_reducible assumption) | exact vi_run (by with_reducible assumption) (vi_runner _) | exact vi_mTask (by with_reducible assumption) | exact vi_mThing (by with_reducible assumption) | exact vi_mdecl (by with_reducible assumption) | exact vi_mready (by with_reducible assumption))
      refine va_iast hx hb hK hP (mw_D hI) hS 5 0 mw_5 rfl hi10 d_M_release_78 (fun H locs hP _ hS => ?_)
      rw [mp_5] at hP
      generalize hw12 : wr sw7 5 p1.toNatClampNeg (sw7 1 p1.toNatClampNeg) = sw11 at hP he
      have g0 : x2 = 0 → vp_in p1 8 := by exact g0
      have eg1_16 : sw11 0 16 = sw7 0 16 := by rw [← hw12]; exact wr_ne (by omega)
      have g1 : vp_in (irem (sw11 0 16) 40) 40 ∧ vp_in (irem (sw11 0 16 + 1) 40) 40 := by rw [eg1_16]; exact g1
      refine W.eq (g2 := F0 m 79 ls []) rfl ?_
      rw [f_M_release_S79] at he
      refine lv_aload_n hx hb d_M_release_79 rfl (lv_at hl 1 rfl) ?_
      refine va_get (D := D) (ci := 4) (v := .ref (ad 6)) (C := R_M) (T := F_M) (N := 18) hx hb hts in_M hown hK hP 0 mw_0 rfl 9 (by decide) (hts _ k_443) (fun _ h9 => h9) rfl d_M_release_80 ?_
      refine lv_iload_n hx hb d_M_release_83 rfl (lv_at hl 2 rfl) ?_
      refine lv_iconst (v := 0) hx hb d_M_release_84 (by decide) ?_
      have hi13 : vp_in p1 8 := (by first | with_reducible assumption | exact vi_isIn7 (by with_reducible assumption) | exact vi_isThing (by with_reducible assumption) | exact vi_decl (by with_reducible assumption) | exact vi_ready (by with_reducible assumption) | exact vi_run (by with_reducible assumption) (by with_reducible assumption) | exact vi_run (by with_reducible assumption) (vi_runner _) | exact vi_mTask (by with_reducible assumption) | exact vi_mThing (by with_reducible assumption) | exact vi_mdecl (by with_reducible assumption) | exact vi_mready (by with_reducible assumption))
      refine va_iast hx hb hK hP (mw_D hI) hS 6 0 mw_6 rfl hi13 d_M_release_85 (fun H locs hP _ hS => ?_)
      rw [mp_6] at hP
      generalize hw15 : wr sw11 6 p1.toNatClampNeg 0 = sw14 at hP he
      have g0 : x2 = 0 → vp_in p1 8 := by exact g0
      have eg1_16 : sw14 0 16 = sw11 0 16 := by rw [← hw15]; exact wr_ne (by omega)
      have g1 : vp_in (irem (sw14 0 16) 40) 40 ∧ vp_in (irem (sw14 0 16 + 1) 40) 40 := by rw [eg1_16]; exact g1
      refine W.eq (g2 := F0 m 86 ls []) rfl ?_
      rw [f_M_release_S86] at he
      refine lv_aload_n hx hb d_M_release_86 rfl (lv_at hl 1 rfl) ?_
      refine va_get (D := D) (ci := 4) (v := .ref (ad 7)) (C := R_M) (T := F_M) (N := 18) hx hb hts in_M hown hK hP 0 mw_0 rfl 10 (by decide) (hts _ k_444) (fun _ h9 => h9) rfl d_M_release_87 ?_
      refine lv_iload_n hx hb d_M_release_90 rfl (lv_at hl 2 rfl) ?_
      refine lv_iconst (v := 0) hx hb d_M_release_91 (by decide) ?_
      have hi16 : vp_in p1 8 := (by first | with_reducible assumption | exact vi_isIn7 (by with_reducible assumption) | exact vi_isThing (by with_reducible assumption) | exact vi_decl (by with_reducible assumption) | exact vi_ready (by with_reducible assumption) | exact vi_run (by with_reducible assumption) (by with_reducible assumption) | exact vi_run (by with_reducible assumption) (vi_runner _) | exact vi_mTask (by with_reducible assumption) | exact vi_mThing (by with_reducible assumption) | exact vi_mdecl (by with_reducible assumption) | exact vi_mready (by with_reducible assumption))
      refine va_iast hx hb hK hP (mw_D hI) hS 7 0 mw_7 rfl hi16 d_M_release_92 (fun H locs hP _ hS => ?_)
      rw [mp_7] at hP
      generalize hw18 : wr sw14 7 p1.toNatClampNeg 0 = sw17 at hP he
      have g0 : x2 = 0 → vp_in p1 8 := by exact g0
      have eg1_16 : sw17 0 16 = sw14 0 16 := by rw [← hw18]; exact wr_ne (by omega)
      have g1 : vp_in (irem (sw17 0 16) 40) 40 ∧ vp_in (irem (sw17 0 16 + 1) 40) 40 := by rw [eg1_16]; exact g1
      refine W.eq (g2 := F0 m 93 ls []) rfl ?_
      rw [f_M_release_S93] at he
      refine lv_aload_n hx hb d_M_release_93 rfl (lv_at hl 1 rfl) ?_
      refine lv_iconst (v := 1) hx hb d_M_release_94 (by decide) ?_
      refine lv_iload_n hx hb d_M_release_95 rfl (lv_at hl 2 rfl) ?_
      refine lv_bipush (v := 15) hx hb d_M_release_96 (by decide) ?_
      refine lv_iload_n hx hb d_M_release_98 rfl (lv_at hl 0 rfl) ?_
      refine wcV (As := [.int 1, .int p1, .int 15, .int (f_M_runner sw1)]) (rest := []) (na := 4) (c_M_tell l D cI cT cH ad sw17 1 p1 15 (f_M_runner sw1) hI (by first | exact hy0 | exact g1)) ⟨hx, hb, hml, hown, hts⟩ k_535 k_537 k_17 k_28 k_538 (by decide +kernel) (by decide) (by decide) hP hK hN (q0 := 0) (ci := 4) mw_0 rfl hS rfl hl.1 rfl (Nat.le_of_ble_eq_true rfl) d_M_release_99 (fun H locs hP hS => ?_)
      generalize hw20 : f_M_tell sw17 1 p1 15 (f_M_runner sw1) = sw19 at hP he
      refine W.eq (g2 := F0 m 102 ls []) rfl ?_
      rw [f_M_release_S102] at he
      refine lv_aload_n hx hb d_M_release_102 rfl (lv_at hl 1 rfl) ?_
      refine va_get (D := D) (ci := 4) (v := .int (sw19 0 3)) (C := R_M) (T := F_M) (N := 18) hx hb hts in_M hown hK hP 0 mw_0 rfl 3 (by decide) (hts _ k_437) (fun _ h9 => h9) rfl d_M_release_103 ?_
      exact W.iret (v := (sw19 0 3)) hx hb hr (fun t ht _ => ⟨⟨(sw19 0 3), (), rfl, by rw [he], (by rw [he]; show va_P _ _ _ t.heap; rw [ht]; exact hP)⟩, hS.F ht⟩) hS.2.2 d_M_release_106
    · have he := he.trans (if_neg hc3)
      refine lv_iconst (v := 0) hx hb d_M_release_40 (by decide) ?_
      exact W.iret (v := 0) hx hb hr (fun t ht _ => ⟨⟨0, (), rfl, by rw [he], (by rw [he]; show va_P _ _ _ t.heap; rw [ht]; exact hP)⟩, hS.F ht⟩) hS.2.2 d_M_release_41
  have J21 : ∀ (x1 : Int32) (sl : St) (H : Heap) (locs : List Loc) (ls : Array Slot), lv_has ls 3 [(0, .ref (ad 0)), (1, .int p1)] → va_P D cls9 (mw cI ad sl) H → va_S (inA ad 13) s.heap H locs → (vp_in (irem (sl 0 16) 40) 40 ∧ vp_in (irem (sl 0 16 + 1) 40) 40) → f_M_release st p1 = f_M_release_B21 sl x1 p1 → W p l e (headSpec w_M_release { frames := 3, cells := 0, slots := 0, locals := 69 }).room s m [.ref (ad 0), .int p1].toArray below meth c H locs 0 0 (MQ below (qI D (f_M_release st p1).1 (mw cI ad ((f_M_release st p1).2)) (inA ad 13)) [.ref (ad 0), .int p1].toArray s 0 0 (inA ad 13)) (F0 m 21 ls [.int x1, .ref (ad 0)]) := by
    intro x1 sl H locs ls hl hP hS g1 he
    rw [f_M_release_B21] at he
    refine lv_aload_n hx hb d_M_release_21 rfl (lv_at hl 0 rfl) ?_
    refine lv_iload_n hx hb d_M_release_22 rfl (lv_at hl 1 rfl) ?_
    refine rdV (As := [.int p1]) (rest := [.int x1, .ref (ad 0)]) (na := 1) (c_M_isDeclared l D cI cT cH ad sl p1 ) ⟨hx, hb, hml, hown, hts⟩ k_500 k_502 k_12 k_28 k_503 (by decide +kernel) (by decide) (by decide) hP hK hN (q0 := 0) (ci := 4) mw_0 rfl rfl hl.1 rfl (Nat.le_of_ble_eq_true rfl) d_M_release_23 ?_
    refine lv_if_ne (tgt := 33) hx hb d_M_release_26 (by decide) (fun hc21 => ?_) (fun hc21 => ?_)
    · have he := he.trans (if_neg hc21)
      refine lv_iconst (v := 0) hx hb d_M_release_33 (by decide) ?_
      exact J34 x1 0 sl H locs ls (lv_sub hl [0, 1] rfl) hP hS (by first | with_reducible assumption | exact Or.inl rfl | exact (fun h9 => absurd h9 (by decide)) | exact (fun h9 => absurd rfl h9) | exact vi_runner _ | exact Or.inr (vp_in_nI (by omega) (by decide)) | exact Or.inr (by first | with_reducible assumption | exact vi_isIn7 (by with_reducible assumption) | exact vi_isThing (by with_reducible assumption) | exact vi_decl (by with_reducible assumption) | exact vi_ready (by with_reducible assumption) | exact vi_run (by with_reducible assumption) (by with_reducible assumption) | exact vi_run (by with_reducible assumption) (vi_runner _) | exact vi_mTask (by with_reducible assumption) | exact vi_mThing (by with_reducible assumption) | exact vi_mdecl (by with_reducible assumption) | exact vi_mready (by with_reducible assumption)) | exact (fun _ => ⟨(by first | with_reducible assumption | exact vi_isIn7 (by with_reducible assumption) | exact vi_isThing (by with_reducible assumption) | exact vi_decl (by with_reducible assumption) | exact vi_ready (by with_reducible assumption) | exact vi_run (by with_reducible assumption) (by with_reducible assumption) | exact vi_run (by with_reducible assumption) (vi_runner _) | exact vi_mTask (by with_reducible assumption) | exact vi_mThing (by with_reducible assumption) | exact vi_mdecl (by with_reducible assumption) | exact vi_mready (by with_reducible assumption)), (by first | with_reducible assumption | exact vi_isIn7 (by with_reducible assumption) | exact vi_isThing (by with_reducible assumption) | exact vi_decl (by with_reducible assumption) | exact vi_ready (by with_reducible assumption) | exact vi_run (by with_reducible assumption) (by with_reducible assumption) | exact vi_run (by with_reducible assumption) (vi_runner _) | exact vi_mTask (by with_reducible assumption) | exact vi_mThing (by with_reducible assumption) | exact vi_mdecl (by with_reducible assumption) | exact vi_mready (by with_reducible assumption))⟩) | exact (fun _ => ⟨vi_latest (by with_reducible assumption) (by with_reducible assumption), vi_run (by with_reducible assumption) (by with_reducible assumption)⟩) | exact (fun _ => (by with_reducible assumption : ¬ v4 = 0 → _) (by with_reducible assumption)) | exact (fun _ => (by first | with_reducible assumption | exact vi_isIn7 (by with_reducible assumption) | exact vi_isThing (by with_reducible assumption) | exact vi_decl (by with_reducible assumption) | exact vi_ready (by with_reducible assumption) | exact vi_run (by with_reducible assumption) (by with_reducible assumption) | exact vi_run (by with_reducible assumption) (vi_runner _) | exact vi_mTask (by with_reducible assumption) | exact vi_mThing (by with_reducible assumption) | exact vi_mdecl (by with_reducible assumption) | exact vi_mready (by with_reducible assumption))) | exact (by first | with_reducible assumption | exact vi_isIn7 (by with_reducible assumption) | exact vi_isThing (by with_reducible assumption) | exact vi_decl (by with_reducible assumption) | exact vi_ready (by with_reducible assumption) | exact vi_run (by with_reducible assumption) (by with_reducible assumption) | exact vi_run (by with_reducible assumption) (vi_runner _) | exact vi_mTask (by with_reducible assumption) | exact vi_mThing (by with_reducible assumption) | exact vi_mdecl (by with_reducible assumption) | exact vi_mready (by with_reducible assumption))) (by first | with_reducible assumption | exact Or.inl rfl | exact (fun h9 => absurd h9 (by decide)) | exact (fun h9 => absurd rfl h9) | exact vi_runner _ | exact Or.inr (vp_in_nI (by omega) (by decide)) | exact Or.inr (by first | with_reducible assumption | exact vi_isIn7 (by with_reducible assumption) | exact vi_isThing (by with_reducible assumption) | exact vi_decl (by with_reducible assumption) | exact vi_ready (by with_reducible assumption) | exact vi_run (by with_reducible assumption) (by with_reducible assumption) | exact vi_run (by with_reducible assumption) (vi_runner _) | exact vi_mTask (by with_reducible assumption) | exact vi_mThing (by with_reducible assumption) | exact vi_mdecl (by with_reducible assumption) | exact vi_mready (by with_reducible assumption)) | exact (fun _ => ⟨(by first | with_reducible assumption | exact vi_isIn7 (by with_reducible assumption) | exact vi_isThing (by with_reducible assumption) | exact vi_decl (by with_reducible assumption) | exact vi_ready (by with_reducible assumption) | exact vi_run (by with_reducible assumption) (by with_reducible assumption) | exact vi_run (by with_reducible assumption) (vi_runner _) | exact vi_mTask (by with_reducible assumption) | exact vi_mThing (by with_reducible assumption) | exact vi_mdecl (by with_reducible assumption) | exact vi_mready (by with_reducible assumption)), (by first | with_reducible assumption | exact vi_isIn7 (by with_reducible assumption) | exact vi_isThing (by with_reducible assumption) | exact vi_decl (by with_reducible assumption) | exact vi_ready (by with_reducible assumption) | exact vi_run (by with_reducible assumption) (by with_reducible assumption) | exact vi_run (by with_reducible assumption) (vi_runner _) | exact vi_mTask (by with_reducible assumption) | exact vi_mThing (by with_reducible assumption) | exact vi_mdecl (by with_reducible assumption) | exact vi_mready (by with_reducible assumption))⟩) | exact (fun _ => ⟨vi_latest (by with_reducible assumption) (by with_reducible assumption), vi_run (by with_reducible assumption) (by with_reducible assumption)⟩) | exact (fun _ => (by with_reducible assumption : ¬ v4 = 0 → _) (by with_reducible assumption)) | exact (fun _ => (by first | with_reducible assumption | exact vi_isIn7 (by with_reducible assumption) | exact vi_isThing (by with_reducible assumption) | exact vi_decl (by with_reducible assumption) | exact vi_ready (by with_reducible assumption) | exact vi_run (by with_reducible assumption) (by with_reducible assumption) | exact vi_run (by with_reducible assumption) (vi_runner _) | exact vi_mTask (by with_reducible assumption) | exact vi_mThing (by with_reducible assumption) | exact vi_mdecl (by with_reducible assumption) | exact vi_mready (by with_reducible assumption))) | exact (by first | with_reducible assumption | exact vi_isIn7 (by with_reducible assumption) | exact vi_isThing (by with_reducible assumption) | exact vi_decl (by with_reducible assumption) | exact vi_ready (by with_reducible assumption) | exact vi_run (by with_reducible assumption) (by with_reducible assumption) | exact vi_run (by with_reducible assumption) (vi_runner _) | exact vi_mTask (by with_reducible assumption) | exact vi_mThing (by with_reducible assumption) | exact vi_mdecl (by with_reducible assumption) | exact vi_mready (by with_reducible assumption))) he
    · have he := he.trans (if_pos hc21)
      refine lv_iconst (v := 1) hx hb d_M_release_29 (by decide) ?_
      refine lv_goto (tgt := 34) hx hb d_M_release_30 (by decide) ?_
      exact J34 x1 1 sl H locs ls (lv_sub hl [0, 1] rfl) hP hS (by first | with_reducible assumption | exact Or.inl rfl | exact (fun h9 => absurd h9 (by decide)) | exact (fun h9 => absurd rfl h9) | exact vi_runner _ | exact Or.inr (vp_in_nI (by omega) (by decide)) | exact Or.inr (by first | with_reducible assumption | exact vi_isIn7 (by with_reducible assumption) | exact vi_isThing (by with_reducible assumption) | exact vi_decl (by with_reducible assumption) | exact vi_ready (by with_reducible assumption) | exact vi_run (by with_reducible assumption) (by with_reducible assumption) | exact vi_run (by with_reducible assumption) (vi_runner _) | exact vi_mTask (by with_reducible assumption) | exact vi_mThing (by with_reducible assumption) | exact vi_mdecl (by with_reducible assumption) | exact vi_mready (by with_reducible assumption)) | exact (fun _ => ⟨(by first | with_reducible assumption | exact vi_isIn7 (by with_reducible assumption) | exact vi_isThing (by with_reducible assumption) | exact vi_decl (by with_reducible assumption) | exact vi_ready (by with_reducible assumption) | exact vi_run (by with_reducible assumption) (by with_reducible assumption) | exact vi_run (by with_reducible assumption) (vi_runner _) | exact vi_mTask (by with_reducible assumption) | exact vi_mThing (by with_reducible assumption) | exact vi_mdecl (by with_reducible assumption) | exact vi_mready (by with_reducible assumption)), (by first | with_reducible assumption | exact vi_isIn7 (by with_reducible assumption) | exact vi_isThing (by with_reducible assumption) | exact vi_decl (by with_reducible assumption) | exact vi_ready (by with_reducible assumption) | exact vi_run (by with_reducible assumption) (by with_reducible assumption) | exact vi_run (by with_reducible assumption) (vi_runner _) | exact vi_mTask (by with_reducible assumption) | exact vi_mThing (by with_reducible assumption) | exact vi_mdecl (by with_reducible assumption) | exact vi_mready (by with_reducible assumption))⟩) | exact (fun _ => ⟨vi_latest (by with_reducible assumption) (by with_reducible assumption), vi_run (by with_reducible assumption) (by with_reducible assumption)⟩) | exact (fun _ => (by with_reducible assumption : ¬ v4 = 0 → _) (by with_reducible assumption)) | exact (fun _ => (by first | with_reducible assumption | exact vi_isIn7 (by with_reducible assumption) | exact vi_isThing (by with_reducible assumption) | exact vi_decl (by with_reducible assumption) | exact vi_ready (by with_reducible assumption) | exact vi_run (by with_reducible assumption) (by with_reducible assumption) | exact vi_run (by with_reducible assumption) (vi_runner _) | exact vi_mTask (by with_reducible assumption) | exact vi_mThing (by with_reducible assumption) | exact vi_mdecl (by with_reducible assumption) | exact vi_mready (by with_reducible assumption))) | exact (by first | with_reducible assumption | exact vi_isIn7 (by with_reducible assumption) | exact vi_isThing (by with_reducible assumption) | exact vi_decl (by with_reducible assumption) | exact vi_ready (by with_reducible assumption) | exact vi_run (by with_reducible assumption) (by with_reducible assumption) | exact vi_run (by with_reducible assumption) (vi_runner _) | exact vi_mTask (by with_reducible assumption) | exact vi_mThing (by with_reducible assumption) | exact vi_mdecl (by with_reducible assumption) | exact vi_mready (by with_reducible assumption))) (by first | with_reducible assumption | exact Or.inl rfl | exact (fun h9 => absurd h9 (by decide)) | exact (fun h9 => absurd rfl h9) | exact vi_runner _ | exact Or.inr (vp_in_nI (by omega) (by decide)) | exact Or.inr (by first | with_reducible assumption | exact vi_isIn7 (by with_reducible assumption) | exact vi_isThing (by with_reducible assumption) | exact vi_decl (by with_reducible assumption) | exact vi_ready (by with_reducible assumption) | exact vi_run (by with_reducible assumption) (by with_reducible assumption) | exact vi_run (by with_reducible assumption) (vi_runner _) | exact vi_mTask (by with_reducible assumption) | exact vi_mThing (by with_reducible assumption) | exact vi_mdecl (by with_reducible assumption) | exact vi_mready (by with_reducible assumption)) | exact (fun _ => ⟨(by first | with_reducible assumption | exact vi_isIn7 (by with_reducible assumption) | exact vi_isThing (by with_reducible assumption) | exact vi_decl (by with_reducible assumption) | exact vi_ready (by with_reducible assumption) | exact vi_run (by with_reducible assumption) (by with_reducible assumption) | exact vi_run (by with_reducible assumption) (vi_runner _) | exact vi_mTask (by with_reducible assumption) | exact vi_mThing (by with_reducible assumption) | exact vi_mdecl (by with_reducible assumption) | exact vi_mready (by with_reducible assumption)), (by first | with_reducible assumption | exact vi_isIn7 (by with_reducible assumption) | exact vi_isThing (by with_reducible assumption) | exact vi_decl (by with_reducible assumption) | exact vi_ready (by with_reducible assumption) | exact vi_run (by with_reducible assumption) (by with_reducible assumption) | exact vi_run (by with_reducible assumption) (vi_runner _) | exact vi_mTask (by with_reducible assumption) | exact vi_mThing (by with_reducible assumption) | exact vi_mdecl (by with_reducible assumption) | exact vi_mready (by with_reducible assumption))⟩) | exact (fun _ => ⟨vi_latest (by with_reducible assumption) (by with_reducible assumption), vi_run (by with_reducible assumption) (by with_reducible assumption)⟩) | exact (fun _ => (by with_reducible assumption : ¬ v4 = 0 → _) (by with_reducible assumption)) | exact (fun _ => (by first | with_reducible assumption | exact vi_isIn7 (by with_reducible assumption) | exact vi_isThing (by with_reducible assumption) | exact vi_decl (by with_reducible assumption) | exact vi_ready (by with_reducible assumption) | exact vi_run (by with_reducible assumption) (by with_reducible assumption) | exact vi_run (by with_reducible assumption) (vi_runner _) | exact vi_mTask (by with_reducible assumption) | exact vi_mThing (by with_reducible assumption) | exact vi_mdecl (by with_reducible assumption) | exact vi_mready (by with_reducible assumption))) | exact (by first | with_reducible assumption | exact vi_isIn7 (by with_reducible assumption) | exact vi_isThing (by with_reducible assumption) | exact vi_decl (by with_reducible assumption) | exact vi_ready (by with_reducible assumption) | exact vi_run (by with_reducible assumption) (by with_reducible assumption) | exact vi_run (by with_reducible assumption) (vi_runner _) | exact vi_mTask (by with_reducible assumption) | exact vi_mThing (by with_reducible assumption) | exact vi_mdecl (by with_reducible assumption) | exact vi_mready (by with_reducible assumption))) he
  have J16 : ∀ (sl : St) (H : Heap) (locs : List Loc) (ls : Array Slot), lv_has ls 3 [(0, .ref (ad 0)), (1, .int p1)] → va_P D cls9 (mw cI ad sl) H → va_S (inA ad 13) s.heap H locs → (vp_in (irem (sl 0 16) 40) 40 ∧ vp_in (irem (sl 0 16 + 1) 40) 40) → f_M_release st p1 = f_M_release_B16 sl p1 → W p l e (headSpec w_M_release { frames := 3, cells := 0, slots := 0, locals := 69 }).room s m [.ref (ad 0), .int p1].toArray below meth c H locs 0 0 (MQ below (qI D (f_M_release st p1).1 (mw cI ad ((f_M_release st p1).2)) (inA ad 13)) [.ref (ad 0), .int p1].toArray s 0 0 (inA ad 13)) (F0 m 16 ls [.ref (ad 0)]) := by
    intro sl H locs ls hl hP hS g1 he
    rw [f_M_release_B16] at he
    refine lv_iconst (v := 1) hx hb d_M_release_16 (by decide) ?_
    refine lv_goto (tgt := 21) hx hb d_M_release_17 (by decide) ?_
    exact J21 1 sl H locs ls (lv_sub hl [0, 1] rfl) hP hS (by first | with_reducible assumption | exact Or.inl rfl | exact (fun h9 => absurd h9 (by decide)) | exact (fun h9 => absurd rfl h9) | exact vi_runner _ | exact Or.inr (vp_in_nI (by omega) (by decide)) | exact Or.inr (by first | with_reducible assumption | exact vi_isIn7 (by with_reducible assumption) | exact vi_isThing (by with_reducible assumption) | exact vi_decl (by with_reducible assumption) | exact vi_ready (by with_reducible assumption) | exact vi_run (by with_reducible assumption) (by with_reducible assumption) | exact vi_run (by with_reducible assumption) (vi_runner _) | exact vi_mTask (by with_reducible assumption) | exact vi_mThing (by with_reducible assumption) | exact vi_mdecl (by with_reducible assumption) | exact vi_mready (by with_reducible assumption)) | exact (fun _ => ⟨(by first | with_reducible assumption | exact vi_isIn7 (by with_reducible assumption) | exact vi_isThing (by with_reducible assumption) | exact vi_decl (by with_reducible assumption) | exact vi_ready (by with_reducible assumption) | exact vi_run (by with_reducible assumption) (by with_reducible assumption) | exact vi_run (by with_reducible assumption) (vi_runner _) | exact vi_mTask (by with_reducible assumption) | exact vi_mThing (by with_reducible assumption) | exact vi_mdecl (by with_reducible assumption) | exact vi_mready (by with_reducible assumption)), (by first | with_reducible assumption | exact vi_isIn7 (by with_reducible assumption) | exact vi_isThing (by with_reducible assumption) | exact vi_decl (by with_reducible assumption) | exact vi_ready (by with_reducible assumption) | exact vi_run (by with_reducible assumption) (by with_reducible assumption) | exact vi_run (by with_reducible assumption) (vi_runner _) | exact vi_mTask (by with_reducible assumption) | exact vi_mThing (by with_reducible assumption) | exact vi_mdecl (by with_reducible assumption) | exact vi_mready (by with_reducible assumption))⟩) | exact (fun _ => ⟨vi_latest (by with_reducible assumption) (by with_reducible assumption), vi_run (by with_reducible assumption) (by with_reducible assumption)⟩) | exact (fun _ => (by with_reducible assumption : ¬ v4 = 0 → _) (by with_reducible assumption)) | exact (fun _ => (by first | with_reducible assumption | exact vi_isIn7 (by with_reducible assumption) | exact vi_isThing (by with_reducible assumption) | exact vi_decl (by with_reducible assumption) | exact vi_ready (by with_reducible assumption) | exact vi_run (by with_reducible assumption) (by with_reducible assumption) | exact vi_run (by with_reducible assumption) (vi_runner _) | exact vi_mTask (by with_reducible assumption) | exact vi_mThing (by with_reducible assumption) | exact vi_mdecl (by with_reducible assumption) | exact vi_mready (by with_reducible assumption))) | exact (by first | with_reducible assumption | exact vi_isIn7 (by with_reducible assumption) | exact vi_isThing (by with_reducible assumption) | exact vi_decl (by with_reducible assumption) | exact vi_ready (by with_reducible assumption) | exact vi_run (by with_reducible assumption) (by with_reducible assumption) | exact vi_run (by with_reducible assumption) (vi_runner _) | exact vi_mTask (by with_reducible assumption) | exact vi_mThing (by with_reducible assumption) | exact vi_mdecl (by with_reducible assumption) | exact vi_mready (by with_reducible assumption))) he
  have he := f_M_release.eq_1 st p1
  refine lv_aload_n hx hb d_M_release_0 rfl (lv_at hl 0 rfl) ?_
  refine lv_aload_n hx hb d_M_release_1 rfl (lv_at hl 0 rfl) ?_
  refine va_get (D := D) (ci := 4) (v := .int (st 0 1)) (C := R_M) (T := F_M) (N := 18) hx hb hts in_M hown hK hP 0 mw_0 rfl 1 (by decide) (hts _ k_435) (fun _ h9 => h9) rfl d_M_release_2 ?_
  refine lv_if_eq (tgt := 16) hx hb d_M_release_5 (by decide) (fun hc22 => ?_) (fun hc22 => ?_)
  · have he := he.trans (if_pos hc22)
    exact J16 st s.heap [] ls (lv_sub hl [0, 1] rfl) hP hS (by first | with_reducible assumption | exact Or.inl rfl | exact (fun h9 => absurd h9 (by decide)) | exact (fun h9 => absurd rfl h9) | exact vi_runner _ | exact Or.inr (vp_in_nI (by omega) (by decide)) | exact Or.inr (by first | with_reducible assumption | exact vi_isIn7 (by with_reducible assumption) | exact vi_isThing (by with_reducible assumption) | exact vi_decl (by with_reducible assumption) | exact vi_ready (by with_reducible assumption) | exact vi_run (by with_reducible assumption) (by with_reducible assumption) | exact vi_run (by with_reducible assumption) (vi_runner _) | exact vi_mTask (by with_reducible assumption) | exact vi_mThing (by with_reducible assumption) | exact vi_mdecl (by with_reducible assumption) | exact vi_mready (by with_reducible assumption)) | exact (fun _ => ⟨(by first | with_reducible assumption | exact vi_isIn7 (by with_reducible assumption) | exact vi_isThing (by with_reducible assumption) | exact vi_decl (by with_reducible assumption) | exact vi_ready (by with_reducible assumption) | exact vi_run (by with_reducible assumption) (by with_reducible assumption) | exact vi_run (by with_reducible assumption) (vi_runner _) | exact vi_mTask (by with_reducible assumption) | exact vi_mThing (by with_reducible assumption) | exact vi_mdecl (by with_reducible assumption) | exact vi_mready (by with_reducible assumption)), (by first | with_reducible assumption | exact vi_isIn7 (by with_reducible assumption) | exact vi_isThing (by with_reducible assumption) | exact vi_decl (by with_reducible assumption) | exact vi_ready (by with_reducible assumption) | exact vi_run (by with_reducible assumption) (by with_reducible assumption) | exact vi_run (by with_reducible assumption) (vi_runner _) | exact vi_mTask (by with_reducible assumption) | exact vi_mThing (by with_reducible assumption) | exact vi_mdecl (by with_reducible assumption) | exact vi_mready (by with_reducible assumption))⟩) | exact (fun _ => ⟨vi_latest (by with_reducible assumption) (by with_reducible assumption), vi_run (by with_reducible assumption) (by with_reducible assumption)⟩) | exact (fun _ => (by with_reducible assumption : ¬ v4 = 0 → _) (by with_reducible assumption)) | exact (fun _ => (by first | with_reducible assumption | exact vi_isIn7 (by with_reducible assumption) | exact vi_isThing (by with_reducible assumption) | exact vi_decl (by with_reducible assumption) | exact vi_ready (by with_reducible assumption) | exact vi_run (by with_reducible assumption) (by with_reducible assumption) | exact vi_run (by with_reducible assumption) (vi_runner _) | exact vi_mTask (by with_reducible assumption) | exact vi_mThing (by with_reducible assumption) | exact vi_mdecl (by with_reducible assumption) | exact vi_mready (by with_reducible assumption))) | exact (by first | with_reducible assumption | exact vi_isIn7 (by with_reducible assumption) | exact vi_isThing (by with_reducible assumption) | exact vi_decl (by with_reducible assumption) | exact vi_ready (by with_reducible assumption) | exact vi_run (by with_reducible assumption) (by with_reducible assumption) | exact vi_run (by with_reducible assumption) (vi_runner _) | exact vi_mTask (by with_reducible assumption) | exact vi_mThing (by with_reducible assumption) | exact vi_mdecl (by with_reducible assumption) | exact vi_mready (by with_reducible assumption))) he
  · have he := he.trans (if_neg hc22)
    refine lv_aload_n hx hb d_M_release_8 rfl (lv_at hl 0 rfl) ?_
    refine lv_iload_n hx hb d_M_release_9 rfl (lv_at hl 1 rfl) ?_
    refine rdV (As := [.int p1]) (rest := [.ref (ad 0)]) (na := 1) (c_M_isReady l D cI cT cH ad st p1 ) ⟨hx, hb, hml, hown, hts⟩ k_523 k_525 k_14 k_28 k_526 (by decide +kernel) (by decide) (by decide) hP hK hN (q0 := 0) (ci := 4) mw_0 rfl rfl hl.1 rfl (Nat.le_of_ble_eq_true rfl) d_M_release_10 ?_
    refine lv_if_eq (tgt := 20) hx hb d_M_release_13 (by decide) (fun hc23 => ?_) (fun hc23 => ?_)
    · have he := he.trans (if_pos hc23)
      refine lv_iconst (v := 0) hx hb d_M_release_20 (by decide) ?_
      exact J21 0 st s.heap [] ls (lv_sub hl [0, 1] rfl) hP hS (by first | with_reducible assumption | exact Or.inl rfl | exact (fun h9 => absurd h9 (by decide)) | exact (fun h9 => absurd rfl h9) | exact vi_runner _ | exact Or.inr (vp_in_nI (by omega) (by decide)) | exact Or.inr (by first | with_reducible assumption | exact vi_isIn7 (by with_reducible assumption) | exact vi_isThing (by with_reducible assumption) | exact vi_decl (by with_reducible assumption) | exact vi_ready (by with_reducible assumption) | exact vi_run (by with_reducible assumption) (by with_reducible assumption) | exact vi_run (by with_reducible assumption) (vi_runner _) | exact vi_mTask (by with_reducible assumption) | exact vi_mThing (by with_reducible assumption) | exact vi_mdecl (by with_reducible assumption) | exact vi_mready (by with_reducible assumption)) | exact (fun _ => ⟨(by first | with_reducible assumption | exact vi_isIn7 (by with_reducible assumption) | exact vi_isThing (by with_reducible assumption) | exact vi_decl (by with_reducible assumption) | exact vi_ready (by with_reducible assumption) | exact vi_run (by with_reducible assumption) (by with_reducible assumption) | exact vi_run (by with_reducible assumption) (vi_runner _) | exact vi_mTask (by with_reducible assumption) | exact vi_mThing (by with_reducible assumption) | exact vi_mdecl (by with_reducible assumption) | exact vi_mready (by with_reducible assumption)), (by first | with_reducible assumption | exact vi_isIn7 (by with_reducible assumption) | exact vi_isThing (by with_reducible assumption) | exact vi_decl (by with_reducible assumption) | exact vi_ready (by with_reducible assumption) | exact vi_run (by with_reducible assumption) (by with_reducible assumption) | exact vi_run (by with_reducible assumption) (vi_runner _) | exact vi_mTask (by with_reducible assumption) | exact vi_mThing (by with_reducible assumption) | exact vi_mdecl (by with_reducible assumption) | exact vi_mready (by with_reducible assumption))⟩) | exact (fun _ => ⟨vi_latest (by with_reducible assumption) (by with_reducible assumption), vi_run (by with_reducible assumption) (by with_reducible assumption)⟩) | exact (fun _ => (by with_reducible assumption : ¬ v4 = 0 → _) (by with_reducible assumption)) | exact (fun _ => (by first | with_reducible assumption | exact vi_isIn7 (by with_reducible assumption) | exact vi_isThing (by with_reducible assumption) | exact vi_decl (by with_reducible assumption) | exact vi_ready (by with_reducible assumption) | exact vi_run (by with_reducible assumption) (by with_reducible assumption) | exact vi_run (by with_reducible assumption) (vi_runner _) | exact vi_mTask (by with_reducible assumption) | exact vi_mThing (by with_reducible assumption) | exact vi_mdecl (by with_reducible assumption) | exact vi_mready (by with_reducible assumption))) | exact (by first | with_reducible assumption | exact vi_isIn7 (by with_reducible assumption) | exact vi_isThing (by with_reducible assumption) | exact vi_decl (by with_reducible assumption) | exact vi_ready (by with_reducible assumption) | exact vi_run (by with_reducible assumption) (by with_reducible assumption) | exact vi_run (by with_reducible assumption) (vi_runner _) | exact vi_mTask (by with_reducible assumption) | exact vi_mThing (by with_reducible assumption) | exact vi_mdecl (by with_reducible assumption) | exact vi_mready (by with_reducible assumption))) he
    · have he := he.trans (if_neg hc23)
      exact J16 st s.heap [] ls (lv_sub hl [0, 1] rfl) hP hS (by first | with_reducible assumption | exact Or.inl rfl | exact (fun h9 => absurd h9 (by decide)) | exact (fun h9 => absurd rfl h9) | exact vi_runner _ | exact Or.inr (vp_in_nI (by omega) (by decide)) | exact Or.inr (by first | with_reducible assumption | exact vi_isIn7 (by with_reducible assumption) | exact vi_isThing (by with_reducible assumption) | exact vi_decl (by with_reducible assumption) | exact vi_ready (by with_reducible assumption) | exact vi_run (by with_reducible assumption) (by with_reducible assumption) | exact vi_run (by with_reducible assumption) (vi_runner _) | exact vi_mTask (by with_reducible assumption) | exact vi_mThing (by with_reducible assumption) | exact vi_mdecl (by with_reducible assumption) | exact vi_mready (by with_reducible assumption)) | exact (fun _ => ⟨(by first | with_reducible assumption | exact vi_isIn7 (by with_reducible assumption) | exact vi_isThing (by with_reducible assumption) | exact vi_decl (by with_reducible assumption) | exact vi_ready (by with_reducible assumption) | exact vi_run (by with_reducible assumption) (by with_reducible assumption) | exact vi_run (by with_reducible assumption) (vi_runner _) | exact vi_mTask (by with_reducible assumption) | exact vi_mThing (by with_reducible assumption) | exact vi_mdecl (by with_reducible assumption) | exact vi_mready (by with_reducible assumption)), (by first | with_reducible assumption | exact vi_isIn7 (by with_reducible assumption) | exact vi_isThing (by with_reducible assumption) | exact vi_decl (by with_reducible assumption) | exact vi_ready (by with_reducible assumption) | exact vi_run (by with_reducible assumption) (by with_reducible assumption) | exact vi_run (by with_reducible assumption) (vi_runner _) | exact vi_mTask (by with_reducible assumption) | exact vi_mThing (by with_reducible assumption) | exact vi_mdecl (by with_reducible assumption) | exact vi_mready (by with_reducible assumption))⟩) | exact (fun _ => ⟨vi_latest (by with_reducible assumption) (by with_reducible assumption), vi_run (by with_reducible assumption) (by with_reducible assumption)⟩) | exact (fun _ => (by with_reducible assumption : ¬ v4 = 0 → _) (by with_reducible assumption)) | exact (fun _ => (by first | with_reducible assumption | exact vi_isIn7 (by with_reducible assumption) | exact vi_isThing (by with_reducible assumption) | exact vi_decl (by with_reducible assumption) | exact vi_ready (by with_reducible assumption) | exact vi_run (by with_reducible assumption) (by with_reducible assumption) | exact vi_run (by with_reducible assumption) (vi_runner _) | exact vi_mTask (by with_reducible assumption) | exact vi_mThing (by with_reducible assumption) | exact vi_mdecl (by with_reducible assumption) | exact vi_mready (by with_reducible assumption))) | exact (by first | with_reducible assumption | exact vi_isIn7 (by with_reducible assumption) | exact vi_isThing (by with_reducible assumption) | exact vi_decl (by with_reducible assumption) | exact vi_ready (by with_reducible assumption) | exact vi_run (by with_reducible assumption) (by with_reducible assumption) | exact vi_run (by with_reducible assumption) (vi_runner _) | exact vi_mTask (by with_reducible assumption) | exact vi_mThing (by with_reducible assumption) | exact vi_mdecl (by with_reducible assumption) | exact vi_mready (by with_reducible assumption))) he
end
